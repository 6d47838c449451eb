section
-- ===== PART A: goes FIRST, ahead of the names: the tables' words, and 'selects' of the private methods out of them =====
/-- a private method of a class that the tables say can be made, by its rows of tables_1 -/
def lw_okq (q : MethodName × Nat) : Prop := (q.1.cls ≠ "java/lang/invoke/MethodHandle" ∧ q.1.cls ≠ "java/lang/invoke/VarHandle") ∧ Cond.instantiable q.1.cls q.2 ∈ tables_1 ∧ Cond.privateMethod q.1 ∈ tables_1 ∧ Cond.instanceMethod q.1 ∈ tables_1
theorem lw_p0 : lw_okq (⟨"WindFarmDispatcher$Farm", "limited", "(II)I"⟩, 19) := ⟨⟨by decide +kernel, by decide +kernel⟩, List.mem_of_getElem? (i := 31) (by decide +kernel), List.mem_of_getElem? (i := 278) (by decide +kernel), List.mem_of_getElem? (i := 279) (by decide +kernel)⟩
theorem lw_p1 : lw_okq (⟨"WindFarmDispatcher$Farm", "blowsAlongColumns", "()Z"⟩, 19) := ⟨⟨by decide +kernel, by decide +kernel⟩, List.mem_of_getElem? (i := 31) (by decide +kernel), List.mem_of_getElem? (i := 293) (by decide +kernel), List.mem_of_getElem? (i := 294) (by decide +kernel)⟩
theorem lw_p2 : lw_okq (⟨"WindFarmDispatcher$Farm", "sumOfLine", "(I)I"⟩, 19) := ⟨⟨by decide +kernel, by decide +kernel⟩, List.mem_of_getElem? (i := 31) (by decide +kernel), List.mem_of_getElem? (i := 297) (by decide +kernel), List.mem_of_getElem? (i := 298) (by decide +kernel)⟩
theorem lw_p3 : lw_okq (⟨"WindFarmDispatcher$Farm", "turbineInLine", "(II)I"⟩, 19) := ⟨⟨by decide +kernel, by decide +kernel⟩, List.mem_of_getElem? (i := 31) (by decide +kernel), List.mem_of_getElem? (i := 301) (by decide +kernel), List.mem_of_getElem? (i := 302) (by decide +kernel)⟩
theorem lw_p4 : lw_okq (⟨"WindFarmDispatcher", "admit", "(CIII)V"⟩, 11) := ⟨⟨by decide +kernel, by decide +kernel⟩, List.mem_of_getElem? (i := 23) (by decide +kernel), List.mem_of_getElem? (i := 371) (by decide +kernel), List.mem_of_getElem? (i := 372) (by decide +kernel)⟩
theorem lw_p5 : lw_okq (⟨"WindFarmDispatcher$Farm", "judgeAdding", "(III)I"⟩, 19) := ⟨⟨by decide +kernel, by decide +kernel⟩, List.mem_of_getElem? (i := 31) (by decide +kernel), List.mem_of_getElem? (i := 379) (by decide +kernel), List.mem_of_getElem? (i := 380) (by decide +kernel)⟩
theorem lw_p6 : lw_okq (⟨"WindFarmDispatcher$Farm", "judgeTurbine", "(CII)I"⟩, 19) := ⟨⟨by decide +kernel, by decide +kernel⟩, List.mem_of_getElem? (i := 31) (by decide +kernel), List.mem_of_getElem? (i := 394) (by decide +kernel), List.mem_of_getElem? (i := 395) (by decide +kernel)⟩
theorem lw_p7 : lw_okq (⟨"WindFarmDispatcher$Farm", "judgeSending", "(II)I"⟩, 19) := ⟨⟨by decide +kernel, by decide +kernel⟩, List.mem_of_getElem? (i := 31) (by decide +kernel), List.mem_of_getElem? (i := 398) (by decide +kernel), List.mem_of_getElem? (i := 399) (by decide +kernel)⟩
theorem lw_p8 : lw_okq (⟨"WindFarmDispatcher$Farm", "judgeBid", "(CIII)I"⟩, 19) := ⟨⟨by decide +kernel, by decide +kernel⟩, List.mem_of_getElem? (i := 31) (by decide +kernel), List.mem_of_getElem? (i := 409) (by decide +kernel), List.mem_of_getElem? (i := 410) (by decide +kernel)⟩
theorem lw_p9 : lw_okq (⟨"java/lang/Throwable", "fillInStackTrace", "(I)Ljava/lang/Throwable;"⟩, 6) := ⟨⟨by decide +kernel, by decide +kernel⟩, List.mem_of_getElem? (i := 465) (by decide +kernel), List.mem_of_getElem? (i := 463) (by decide +kernel), List.mem_of_getElem? (i := 464) (by decide +kernel)⟩
theorem lw_p10 : lw_okq (⟨"WindFarmDispatcher$Farm", "firstInService", "()I"⟩, 19) := ⟨⟨by decide +kernel, by decide +kernel⟩, List.mem_of_getElem? (i := 31) (by decide +kernel), List.mem_of_getElem? (i := 514) (by decide +kernel), List.mem_of_getElem? (i := 515) (by decide +kernel)⟩
theorem lw_p11 : lw_okq (⟨"WindFarmDispatcher$Farm", "countBids", "()I"⟩, 19) := ⟨⟨by decide +kernel, by decide +kernel⟩, List.mem_of_getElem? (i := 31) (by decide +kernel), List.mem_of_getElem? (i := 518) (by decide +kernel), List.mem_of_getElem? (i := 519) (by decide +kernel)⟩
theorem lw_p12 : lw_okq (⟨"WindFarmDispatcher", "reject", "(III)V"⟩, 11) := ⟨⟨by decide +kernel, by decide +kernel⟩, List.mem_of_getElem? (i := 23) (by decide +kernel), List.mem_of_getElem? (i := 522) (by decide +kernel), List.mem_of_getElem? (i := 523) (by decide +kernel)⟩
theorem lw_p13 : lw_okq (⟨"WindFarmDispatcher$History", "farmAt", "(I)LWindFarmDispatcher$Farm;"⟩, 3) := ⟨⟨by decide +kernel, by decide +kernel⟩, List.mem_of_getElem? (i := 113) (by decide +kernel), List.mem_of_getElem? (i := 546) (by decide +kernel), List.mem_of_getElem? (i := 547) (by decide +kernel)⟩
theorem lw_p14 : lw_okq (⟨"WindFarmDispatcher$Farm", "turbineWithMostOutput", "()I"⟩, 19) := ⟨⟨by decide +kernel, by decide +kernel⟩, List.mem_of_getElem? (i := 31) (by decide +kernel), List.mem_of_getElem? (i := 563) (by decide +kernel), List.mem_of_getElem? (i := 564) (by decide +kernel)⟩
theorem lw_p15 : lw_okq (⟨"WindFarmDispatcher", "requireTurbine", "(I)V"⟩, 11) := ⟨⟨by decide +kernel, by decide +kernel⟩, List.mem_of_getElem? (i := 23) (by decide +kernel), List.mem_of_getElem? (i := 739) (by decide +kernel), List.mem_of_getElem? (i := 740) (by decide +kernel)⟩
def lw_privs_1 : List (MethodName × Nat) := [(⟨"WindFarmDispatcher$Farm", "limited", "(II)I"⟩, 19), (⟨"WindFarmDispatcher$Farm", "blowsAlongColumns", "()Z"⟩, 19), (⟨"WindFarmDispatcher$Farm", "sumOfLine", "(I)I"⟩, 19), (⟨"WindFarmDispatcher$Farm", "turbineInLine", "(II)I"⟩, 19), (⟨"WindFarmDispatcher", "admit", "(CIII)V"⟩, 11), (⟨"WindFarmDispatcher$Farm", "judgeAdding", "(III)I"⟩, 19), (⟨"WindFarmDispatcher$Farm", "judgeTurbine", "(CII)I"⟩, 19), (⟨"WindFarmDispatcher$Farm", "judgeSending", "(II)I"⟩, 19), (⟨"WindFarmDispatcher$Farm", "judgeBid", "(CIII)I"⟩, 19), (⟨"java/lang/Throwable", "fillInStackTrace", "(I)Ljava/lang/Throwable;"⟩, 6), (⟨"WindFarmDispatcher$Farm", "firstInService", "()I"⟩, 19), (⟨"WindFarmDispatcher$Farm", "countBids", "()I"⟩, 19), (⟨"WindFarmDispatcher", "reject", "(III)V"⟩, 11), (⟨"WindFarmDispatcher$History", "farmAt", "(I)LWindFarmDispatcher$Farm;"⟩, 3), (⟨"WindFarmDispatcher$Farm", "turbineWithMostOutput", "()I"⟩, 19), (⟨"WindFarmDispatcher", "requireTurbine", "(I)V"⟩, 11)]
theorem lw_r1 : ∀ q ∈ lw_privs_1, lw_okq q := List.forall_mem_cons.mpr ⟨lw_p0, List.forall_mem_cons.mpr ⟨lw_p1, List.forall_mem_cons.mpr ⟨lw_p2, List.forall_mem_cons.mpr ⟨lw_p3, List.forall_mem_cons.mpr ⟨lw_p4, List.forall_mem_cons.mpr ⟨lw_p5, List.forall_mem_cons.mpr ⟨lw_p6, List.forall_mem_cons.mpr ⟨lw_p7, List.forall_mem_cons.mpr ⟨lw_p8, List.forall_mem_cons.mpr ⟨lw_p9, List.forall_mem_cons.mpr ⟨lw_p10, List.forall_mem_cons.mpr ⟨lw_p11, List.forall_mem_cons.mpr ⟨lw_p12, List.forall_mem_cons.mpr ⟨lw_p13, List.forall_mem_cons.mpr ⟨lw_p14, List.forall_mem_cons.mpr ⟨lw_p15, fun _ h => absurd h List.not_mem_nil⟩⟩⟩⟩⟩⟩⟩⟩⟩⟩⟩⟩⟩⟩⟩⟩
theorem lw_p16 : lw_okq (⟨"WindFarmDispatcher", "requireHour", "(I)V"⟩, 11) := ⟨⟨by decide +kernel, by decide +kernel⟩, List.mem_of_getElem? (i := 23) (by decide +kernel), List.mem_of_getElem? (i := 883) (by decide +kernel), List.mem_of_getElem? (i := 884) (by decide +kernel)⟩
theorem lw_p17 : lw_okq (⟨"WindFarmDispatcher", "requireBid", "(I)V"⟩, 11) := ⟨⟨by decide +kernel, by decide +kernel⟩, List.mem_of_getElem? (i := 23) (by decide +kernel), List.mem_of_getElem? (i := 897) (by decide +kernel), List.mem_of_getElem? (i := 898) (by decide +kernel)⟩
theorem lw_p18 : lw_okq (⟨"WindFarmDispatcher$Farm", "isBidAhead", "(II)Z"⟩, 19) := ⟨⟨by decide +kernel, by decide +kernel⟩, List.mem_of_getElem? (i := 31) (by decide +kernel), List.mem_of_getElem? (i := 920) (by decide +kernel), List.mem_of_getElem? (i := 921) (by decide +kernel)⟩
theorem lw_p19 : lw_okq (⟨"WindFarmDispatcher$Farm", "account", "(I)V"⟩, 19) := ⟨⟨by decide +kernel, by decide +kernel⟩, List.mem_of_getElem? (i := 31) (by decide +kernel), List.mem_of_getElem? (i := 936) (by decide +kernel), List.mem_of_getElem? (i := 937) (by decide +kernel)⟩
theorem lw_p20 : lw_okq (⟨"WindFarmDispatcher$Farm", "workOnServices", "()V"⟩, 19) := ⟨⟨by decide +kernel, by decide +kernel⟩, List.mem_of_getElem? (i := 31) (by decide +kernel), List.mem_of_getElem? (i := 940) (by decide +kernel), List.mem_of_getElem? (i := 941) (by decide +kernel)⟩
theorem lw_p21 : lw_okq (⟨"WindFarmDispatcher$Farm", "isTurbineAhead", "(II)Z"⟩, 19) := ⟨⟨by decide +kernel, by decide +kernel⟩, List.mem_of_getElem? (i := 31) (by decide +kernel), List.mem_of_getElem? (i := 971) (by decide +kernel), List.mem_of_getElem? (i := 972) (by decide +kernel)⟩
theorem lw_p22 : lw_okq (⟨"WindFarmDispatcher", "writeNumber", "(CI)V"⟩, 11) := ⟨⟨by decide +kernel, by decide +kernel⟩, List.mem_of_getElem? (i := 23) (by decide +kernel), List.mem_of_getElem? (i := 1027) (by decide +kernel), List.mem_of_getElem? (i := 1028) (by decide +kernel)⟩
theorem lw_p23 : lw_okq (⟨"WindFarmDispatcher$CommandReader", "readSign", "(C)Z"⟩, 5) := ⟨⟨by decide +kernel, by decide +kernel⟩, List.mem_of_getElem? (i := 133) (by decide +kernel), List.mem_of_getElem? (i := 1088) (by decide +kernel), List.mem_of_getElem? (i := 1089) (by decide +kernel)⟩
theorem lw_p24 : lw_okq (⟨"WindFarmDispatcher$CommandReader", "readPart", "(C)Z"⟩, 5) := ⟨⟨by decide +kernel, by decide +kernel⟩, List.mem_of_getElem? (i := 133) (by decide +kernel), List.mem_of_getElem? (i := 1104) (by decide +kernel), List.mem_of_getElem? (i := 1105) (by decide +kernel)⟩
theorem lw_p25 : lw_okq (⟨"WindFarmDispatcher$CommandReader", "readDigits", "(I)Z"⟩, 5) := ⟨⟨by decide +kernel, by decide +kernel⟩, List.mem_of_getElem? (i := 133) (by decide +kernel), List.mem_of_getElem? (i := 1108) (by decide +kernel), List.mem_of_getElem? (i := 1109) (by decide +kernel)⟩
theorem lw_p26 : lw_okq (⟨"WindFarmDispatcher$CommandReader", "keepArgument", "(I)V"⟩, 5) := ⟨⟨by decide +kernel, by decide +kernel⟩, List.mem_of_getElem? (i := 133) (by decide +kernel), List.mem_of_getElem? (i := 1113) (by decide +kernel), List.mem_of_getElem? (i := 1114) (by decide +kernel)⟩
theorem lw_p27 : lw_okq (⟨"WindFarmDispatcher$CommandReader", "readDirection", "()Z"⟩, 5) := ⟨⟨by decide +kernel, by decide +kernel⟩, List.mem_of_getElem? (i := 133) (by decide +kernel), List.mem_of_getElem? (i := 1118) (by decide +kernel), List.mem_of_getElem? (i := 1119) (by decide +kernel)⟩
theorem lw_p28 : lw_okq (⟨"WindFarmDispatcher", "refuseCommand", "(II)V"⟩, 11) := ⟨⟨by decide +kernel, by decide +kernel⟩, List.mem_of_getElem? (i := 23) (by decide +kernel), List.mem_of_getElem? (i := 1131) (by decide +kernel), List.mem_of_getElem? (i := 1132) (by decide +kernel)⟩
theorem lw_p29 : lw_okq (⟨"WindFarmDispatcher", "requireRejection", "()V"⟩, 11) := ⟨⟨by decide +kernel, by decide +kernel⟩, List.mem_of_getElem? (i := 23) (by decide +kernel), List.mem_of_getElem? (i := 1168) (by decide +kernel), List.mem_of_getElem? (i := 1169) (by decide +kernel)⟩
theorem lw_p30 : lw_okq (⟨"WindFarmDispatcherModel", "isFine", "(Z)Z"⟩, 17) := ⟨⟨by decide +kernel, by decide +kernel⟩, List.mem_of_getElem? (i := 1212) (by decide +kernel), List.mem_of_getElem? (i := 1278) (by decide +kernel), List.mem_of_getElem? (i := 1279) (by decide +kernel)⟩
theorem lw_p31 : lw_okq (⟨"WindFarmDispatcherModel", "begins", "()V"⟩, 17) := ⟨⟨by decide +kernel, by decide +kernel⟩, List.mem_of_getElem? (i := 1212) (by decide +kernel), List.mem_of_getElem? (i := 1294) (by decide +kernel), List.mem_of_getElem? (i := 1295) (by decide +kernel)⟩
def lw_privs_2 : List (MethodName × Nat) := [(⟨"WindFarmDispatcher", "requireHour", "(I)V"⟩, 11), (⟨"WindFarmDispatcher", "requireBid", "(I)V"⟩, 11), (⟨"WindFarmDispatcher$Farm", "isBidAhead", "(II)Z"⟩, 19), (⟨"WindFarmDispatcher$Farm", "account", "(I)V"⟩, 19), (⟨"WindFarmDispatcher$Farm", "workOnServices", "()V"⟩, 19), (⟨"WindFarmDispatcher$Farm", "isTurbineAhead", "(II)Z"⟩, 19), (⟨"WindFarmDispatcher", "writeNumber", "(CI)V"⟩, 11), (⟨"WindFarmDispatcher$CommandReader", "readSign", "(C)Z"⟩, 5), (⟨"WindFarmDispatcher$CommandReader", "readPart", "(C)Z"⟩, 5), (⟨"WindFarmDispatcher$CommandReader", "readDigits", "(I)Z"⟩, 5), (⟨"WindFarmDispatcher$CommandReader", "keepArgument", "(I)V"⟩, 5), (⟨"WindFarmDispatcher$CommandReader", "readDirection", "()Z"⟩, 5), (⟨"WindFarmDispatcher", "refuseCommand", "(II)V"⟩, 11), (⟨"WindFarmDispatcher", "requireRejection", "()V"⟩, 11), (⟨"WindFarmDispatcherModel", "isFine", "(Z)Z"⟩, 17), (⟨"WindFarmDispatcherModel", "begins", "()V"⟩, 17)]
theorem lw_r2 : ∀ q ∈ lw_privs_2, lw_okq q := List.forall_mem_cons.mpr ⟨lw_p16, List.forall_mem_cons.mpr ⟨lw_p17, List.forall_mem_cons.mpr ⟨lw_p18, List.forall_mem_cons.mpr ⟨lw_p19, List.forall_mem_cons.mpr ⟨lw_p20, List.forall_mem_cons.mpr ⟨lw_p21, List.forall_mem_cons.mpr ⟨lw_p22, List.forall_mem_cons.mpr ⟨lw_p23, List.forall_mem_cons.mpr ⟨lw_p24, List.forall_mem_cons.mpr ⟨lw_p25, List.forall_mem_cons.mpr ⟨lw_p26, List.forall_mem_cons.mpr ⟨lw_p27, List.forall_mem_cons.mpr ⟨lw_p28, List.forall_mem_cons.mpr ⟨lw_p29, List.forall_mem_cons.mpr ⟨lw_p30, List.forall_mem_cons.mpr ⟨lw_p31, fun _ h => absurd h List.not_mem_nil⟩⟩⟩⟩⟩⟩⟩⟩⟩⟩⟩⟩⟩⟩⟩⟩
theorem lw_p32 : lw_okq (⟨"WindFarmDispatcherModel", "copies", "(II)V"⟩, 17) := ⟨⟨by decide +kernel, by decide +kernel⟩, List.mem_of_getElem? (i := 1212) (by decide +kernel), List.mem_of_getElem? (i := 1298) (by decide +kernel), List.mem_of_getElem? (i := 1299) (by decide +kernel)⟩
theorem lw_p33 : lw_okq (⟨"WindFarmDispatcherModel", "adds", "(III)I"⟩, 17) := ⟨⟨by decide +kernel, by decide +kernel⟩, List.mem_of_getElem? (i := 1212) (by decide +kernel), List.mem_of_getElem? (i := 1302) (by decide +kernel), List.mem_of_getElem? (i := 1303) (by decide +kernel)⟩
theorem lw_p34 : lw_okq (⟨"WindFarmDispatcherModel", "inCell", "(II)I"⟩, 17) := ⟨⟨by decide +kernel, by decide +kernel⟩, List.mem_of_getElem? (i := 1212) (by decide +kernel), List.mem_of_getElem? (i := 1312) (by decide +kernel), List.mem_of_getElem? (i := 1313) (by decide +kernel)⟩
theorem lw_p35 : lw_okq (⟨"WindFarmDispatcherModel", "t", "(II)I"⟩, 17) := ⟨⟨by decide +kernel, by decide +kernel⟩, List.mem_of_getElem? (i := 1212) (by decide +kernel), List.mem_of_getElem? (i := 1316) (by decide +kernel), List.mem_of_getElem? (i := 1317) (by decide +kernel)⟩
theorem lw_p36 : lw_okq (⟨"WindFarmDispatcherModel", "rejects", "(ZII)Z"⟩, 17) := ⟨⟨by decide +kernel, by decide +kernel⟩, List.mem_of_getElem? (i := 1212) (by decide +kernel), List.mem_of_getElem? (i := 1320) (by decide +kernel), List.mem_of_getElem? (i := 1321) (by decide +kernel)⟩
theorem lw_p37 : lw_okq (⟨"WindFarmDispatcherModel", "set", "(III)V"⟩, 17) := ⟨⟨by decide +kernel, by decide +kernel⟩, List.mem_of_getElem? (i := 1212) (by decide +kernel), List.mem_of_getElem? (i := 1324) (by decide +kernel), List.mem_of_getElem? (i := 1325) (by decide +kernel)⟩
theorem lw_p38 : lw_okq (⟨"WindFarmDispatcherModel", "ends", "(IIII)I"⟩, 17) := ⟨⟨by decide +kernel, by decide +kernel⟩, List.mem_of_getElem? (i := 1212) (by decide +kernel), List.mem_of_getElem? (i := 1328) (by decide +kernel), List.mem_of_getElem? (i := 1329) (by decide +kernel)⟩
theorem lw_p39 : lw_okq (⟨"WindFarmDispatcherModel", "fails", "(I)I"⟩, 17) := ⟨⟨by decide +kernel, by decide +kernel⟩, List.mem_of_getElem? (i := 1212) (by decide +kernel), List.mem_of_getElem? (i := 1336) (by decide +kernel), List.mem_of_getElem? (i := 1337) (by decide +kernel)⟩
theorem lw_p40 : lw_okq (⟨"WindFarmDispatcherModel", "isTurbine", "(I)Z"⟩, 17) := ⟨⟨by decide +kernel, by decide +kernel⟩, List.mem_of_getElem? (i := 1212) (by decide +kernel), List.mem_of_getElem? (i := 1340) (by decide +kernel), List.mem_of_getElem? (i := 1341) (by decide +kernel)⟩
theorem lw_p41 : lw_okq (⟨"WindFarmDispatcherModel", "inState", "(I)I"⟩, 17) := ⟨⟨by decide +kernel, by decide +kernel⟩, List.mem_of_getElem? (i := 1212) (by decide +kernel), List.mem_of_getElem? (i := 1344) (by decide +kernel), List.mem_of_getElem? (i := 1345) (by decide +kernel)⟩
theorem lw_p42 : lw_okq (⟨"WindFarmDispatcherModel", "sends", "(II)I"⟩, 17) := ⟨⟨by decide +kernel, by decide +kernel⟩, List.mem_of_getElem? (i := 1212) (by decide +kernel), List.mem_of_getElem? (i := 1352) (by decide +kernel), List.mem_of_getElem? (i := 1353) (by decide +kernel)⟩
theorem lw_p43 : lw_okq (⟨"WindFarmDispatcherModel", "output", "(I)I"⟩, 17) := ⟨⟨by decide +kernel, by decide +kernel⟩, List.mem_of_getElem? (i := 1212) (by decide +kernel), List.mem_of_getElem? (i := 1356) (by decide +kernel), List.mem_of_getElem? (i := 1357) (by decide +kernel)⟩
theorem lw_p44 : lw_okq (⟨"WindFarmDispatcherModel", "available", "(I)I"⟩, 17) := ⟨⟨by decide +kernel, by decide +kernel⟩, List.mem_of_getElem? (i := 1212) (by decide +kernel), List.mem_of_getElem? (i := 1360) (by decide +kernel), List.mem_of_getElem? (i := 1361) (by decide +kernel)⟩
theorem lw_p45 : lw_okq (⟨"WindFarmDispatcherModel", "lossOf", "(I)I"⟩, 17) := ⟨⟨by decide +kernel, by decide +kernel⟩, List.mem_of_getElem? (i := 1212) (by decide +kernel), List.mem_of_getElem? (i := 1367) (by decide +kernel), List.mem_of_getElem? (i := 1368) (by decide +kernel)⟩
theorem lw_p46 : lw_okq (⟨"WindFarmDispatcherModel", "wakeOf", "(II)I"⟩, 17) := ⟨⟨by decide +kernel, by decide +kernel⟩, List.mem_of_getElem? (i := 1212) (by decide +kernel), List.mem_of_getElem? (i := 1371) (by decide +kernel), List.mem_of_getElem? (i := 1372) (by decide +kernel)⟩
theorem lw_p47 : lw_okq (⟨"WindFarmDispatcherModel", "firstInService", "()I"⟩, 17) := ⟨⟨by decide +kernel, by decide +kernel⟩, List.mem_of_getElem? (i := 1212) (by decide +kernel), List.mem_of_getElem? (i := 1375) (by decide +kernel), List.mem_of_getElem? (i := 1376) (by decide +kernel)⟩
def lw_privs_3 : List (MethodName × Nat) := [(⟨"WindFarmDispatcherModel", "copies", "(II)V"⟩, 17), (⟨"WindFarmDispatcherModel", "adds", "(III)I"⟩, 17), (⟨"WindFarmDispatcherModel", "inCell", "(II)I"⟩, 17), (⟨"WindFarmDispatcherModel", "t", "(II)I"⟩, 17), (⟨"WindFarmDispatcherModel", "rejects", "(ZII)Z"⟩, 17), (⟨"WindFarmDispatcherModel", "set", "(III)V"⟩, 17), (⟨"WindFarmDispatcherModel", "ends", "(IIII)I"⟩, 17), (⟨"WindFarmDispatcherModel", "fails", "(I)I"⟩, 17), (⟨"WindFarmDispatcherModel", "isTurbine", "(I)Z"⟩, 17), (⟨"WindFarmDispatcherModel", "inState", "(I)I"⟩, 17), (⟨"WindFarmDispatcherModel", "sends", "(II)I"⟩, 17), (⟨"WindFarmDispatcherModel", "output", "(I)I"⟩, 17), (⟨"WindFarmDispatcherModel", "available", "(I)I"⟩, 17), (⟨"WindFarmDispatcherModel", "lossOf", "(I)I"⟩, 17), (⟨"WindFarmDispatcherModel", "wakeOf", "(II)I"⟩, 17), (⟨"WindFarmDispatcherModel", "firstInService", "()I"⟩, 17)]
theorem lw_r3 : ∀ q ∈ lw_privs_3, lw_okq q := List.forall_mem_cons.mpr ⟨lw_p32, List.forall_mem_cons.mpr ⟨lw_p33, List.forall_mem_cons.mpr ⟨lw_p34, List.forall_mem_cons.mpr ⟨lw_p35, List.forall_mem_cons.mpr ⟨lw_p36, List.forall_mem_cons.mpr ⟨lw_p37, List.forall_mem_cons.mpr ⟨lw_p38, List.forall_mem_cons.mpr ⟨lw_p39, List.forall_mem_cons.mpr ⟨lw_p40, List.forall_mem_cons.mpr ⟨lw_p41, List.forall_mem_cons.mpr ⟨lw_p42, List.forall_mem_cons.mpr ⟨lw_p43, List.forall_mem_cons.mpr ⟨lw_p44, List.forall_mem_cons.mpr ⟨lw_p45, List.forall_mem_cons.mpr ⟨lw_p46, List.forall_mem_cons.mpr ⟨lw_p47, fun _ h => absurd h List.not_mem_nil⟩⟩⟩⟩⟩⟩⟩⟩⟩⟩⟩⟩⟩⟩⟩⟩
theorem lw_p48 : lw_okq (⟨"WindFarmDispatcherModel", "recalls", "(I)I"⟩, 17) := ⟨⟨by decide +kernel, by decide +kernel⟩, List.mem_of_getElem? (i := 1212) (by decide +kernel), List.mem_of_getElem? (i := 1383) (by decide +kernel), List.mem_of_getElem? (i := 1384) (by decide +kernel)⟩
theorem lw_p49 : lw_okq (⟨"WindFarmDispatcherModel", "curtails", "(II)I"⟩, 17) := ⟨⟨by decide +kernel, by decide +kernel⟩, List.mem_of_getElem? (i := 1212) (by decide +kernel), List.mem_of_getElem? (i := 1391) (by decide +kernel), List.mem_of_getElem? (i := 1392) (by decide +kernel)⟩
theorem lw_p50 : lw_okq (⟨"WindFarmDispatcherModel", "releases", "(I)I"⟩, 17) := ⟨⟨by decide +kernel, by decide +kernel⟩, List.mem_of_getElem? (i := 1212) (by decide +kernel), List.mem_of_getElem? (i := 1399) (by decide +kernel), List.mem_of_getElem? (i := 1400) (by decide +kernel)⟩
theorem lw_p51 : lw_okq (⟨"WindFarmDispatcherModel", "blows", "(II)I"⟩, 17) := ⟨⟨by decide +kernel, by decide +kernel⟩, List.mem_of_getElem? (i := 1212) (by decide +kernel), List.mem_of_getElem? (i := 1410) (by decide +kernel), List.mem_of_getElem? (i := 1411) (by decide +kernel)⟩
theorem lw_p52 : lw_okq (⟨"WindFarmDispatcherModel", "total", "()I"⟩, 17) := ⟨⟨by decide +kernel, by decide +kernel⟩, List.mem_of_getElem? (i := 1212) (by decide +kernel), List.mem_of_getElem? (i := 1414) (by decide +kernel), List.mem_of_getElem? (i := 1415) (by decide +kernel)⟩
theorem lw_p53 : lw_okq (⟨"WindFarmDispatcherModel", "limits", "(I)I"⟩, 17) := ⟨⟨by decide +kernel, by decide +kernel⟩, List.mem_of_getElem? (i := 1212) (by decide +kernel), List.mem_of_getElem? (i := 1422) (by decide +kernel), List.mem_of_getElem? (i := 1423) (by decide +kernel)⟩
theorem lw_p54 : lw_okq (⟨"WindFarmDispatcherModel", "dispatches", "()I"⟩, 17) := ⟨⟨by decide +kernel, by decide +kernel⟩, List.mem_of_getElem? (i := 1212) (by decide +kernel), List.mem_of_getElem? (i := 1430) (by decide +kernel), List.mem_of_getElem? (i := 1431) (by decide +kernel)⟩
theorem lw_p55 : lw_okq (⟨"WindFarmDispatcherModel", "releasesAll", "()I"⟩, 17) := ⟨⟨by decide +kernel, by decide +kernel⟩, List.mem_of_getElem? (i := 1212) (by decide +kernel), List.mem_of_getElem? (i := 1438) (by decide +kernel), List.mem_of_getElem? (i := 1439) (by decide +kernel)⟩
theorem lw_p56 : lw_okq (⟨"WindFarmDispatcherModel", "places", "(III)I"⟩, 17) := ⟨⟨by decide +kernel, by decide +kernel⟩, List.mem_of_getElem? (i := 1212) (by decide +kernel), List.mem_of_getElem? (i := 1446) (by decide +kernel), List.mem_of_getElem? (i := 1447) (by decide +kernel)⟩
theorem lw_p57 : lw_okq (⟨"WindFarmDispatcherModel", "price", "(I)I"⟩, 17) := ⟨⟨by decide +kernel, by decide +kernel⟩, List.mem_of_getElem? (i := 1212) (by decide +kernel), List.mem_of_getElem? (i := 1453) (by decide +kernel), List.mem_of_getElem? (i := 1454) (by decide +kernel)⟩
theorem lw_p58 : lw_okq (⟨"WindFarmDispatcherModel", "bids", "()I"⟩, 17) := ⟨⟨by decide +kernel, by decide +kernel⟩, List.mem_of_getElem? (i := 1212) (by decide +kernel), List.mem_of_getElem? (i := 1457) (by decide +kernel), List.mem_of_getElem? (i := 1458) (by decide +kernel)⟩
theorem lw_p59 : lw_okq (⟨"WindFarmDispatcherModel", "withdraws", "(I)I"⟩, 17) := ⟨⟨by decide +kernel, by decide +kernel⟩, List.mem_of_getElem? (i := 1212) (by decide +kernel), List.mem_of_getElem? (i := 1465) (by decide +kernel), List.mem_of_getElem? (i := 1466) (by decide +kernel)⟩
theorem lw_p60 : lw_okq (⟨"WindFarmDispatcherModel", "quantity", "(I)I"⟩, 17) := ⟨⟨by decide +kernel, by decide +kernel⟩, List.mem_of_getElem? (i := 1212) (by decide +kernel), List.mem_of_getElem? (i := 1469) (by decide +kernel), List.mem_of_getElem? (i := 1470) (by decide +kernel)⟩
theorem lw_p61 : lw_okq (⟨"WindFarmDispatcherModel", "passesHours", "(I)I"⟩, 17) := ⟨⟨by decide +kernel, by decide +kernel⟩, List.mem_of_getElem? (i := 1212) (by decide +kernel), List.mem_of_getElem? (i := 1477) (by decide +kernel), List.mem_of_getElem? (i := 1478) (by decide +kernel)⟩
theorem lw_p62 : lw_okq (⟨"WindFarmDispatcherModel", "passes", "()V"⟩, 17) := ⟨⟨by decide +kernel, by decide +kernel⟩, List.mem_of_getElem? (i := 1212) (by decide +kernel), List.mem_of_getElem? (i := 1481) (by decide +kernel), List.mem_of_getElem? (i := 1482) (by decide +kernel)⟩
theorem lw_p63 : lw_okq (⟨"WindFarmDispatcherModel", "ofTurbine", "(II)I"⟩, 17) := ⟨⟨by decide +kernel, by decide +kernel⟩, List.mem_of_getElem? (i := 1212) (by decide +kernel), List.mem_of_getElem? (i := 1497) (by decide +kernel), List.mem_of_getElem? (i := 1498) (by decide +kernel)⟩
def lw_privs_4 : List (MethodName × Nat) := [(⟨"WindFarmDispatcherModel", "recalls", "(I)I"⟩, 17), (⟨"WindFarmDispatcherModel", "curtails", "(II)I"⟩, 17), (⟨"WindFarmDispatcherModel", "releases", "(I)I"⟩, 17), (⟨"WindFarmDispatcherModel", "blows", "(II)I"⟩, 17), (⟨"WindFarmDispatcherModel", "total", "()I"⟩, 17), (⟨"WindFarmDispatcherModel", "limits", "(I)I"⟩, 17), (⟨"WindFarmDispatcherModel", "dispatches", "()I"⟩, 17), (⟨"WindFarmDispatcherModel", "releasesAll", "()I"⟩, 17), (⟨"WindFarmDispatcherModel", "places", "(III)I"⟩, 17), (⟨"WindFarmDispatcherModel", "price", "(I)I"⟩, 17), (⟨"WindFarmDispatcherModel", "bids", "()I"⟩, 17), (⟨"WindFarmDispatcherModel", "withdraws", "(I)I"⟩, 17), (⟨"WindFarmDispatcherModel", "quantity", "(I)I"⟩, 17), (⟨"WindFarmDispatcherModel", "passesHours", "(I)I"⟩, 17), (⟨"WindFarmDispatcherModel", "passes", "()V"⟩, 17), (⟨"WindFarmDispatcherModel", "ofTurbine", "(II)I"⟩, 17)]
theorem lw_r4 : ∀ q ∈ lw_privs_4, lw_okq q := List.forall_mem_cons.mpr ⟨lw_p48, List.forall_mem_cons.mpr ⟨lw_p49, List.forall_mem_cons.mpr ⟨lw_p50, List.forall_mem_cons.mpr ⟨lw_p51, List.forall_mem_cons.mpr ⟨lw_p52, List.forall_mem_cons.mpr ⟨lw_p53, List.forall_mem_cons.mpr ⟨lw_p54, List.forall_mem_cons.mpr ⟨lw_p55, List.forall_mem_cons.mpr ⟨lw_p56, List.forall_mem_cons.mpr ⟨lw_p57, List.forall_mem_cons.mpr ⟨lw_p58, List.forall_mem_cons.mpr ⟨lw_p59, List.forall_mem_cons.mpr ⟨lw_p60, List.forall_mem_cons.mpr ⟨lw_p61, List.forall_mem_cons.mpr ⟨lw_p62, List.forall_mem_cons.mpr ⟨lw_p63, fun _ h => absurd h List.not_mem_nil⟩⟩⟩⟩⟩⟩⟩⟩⟩⟩⟩⟩⟩⟩⟩⟩
theorem lw_p64 : lw_okq (⟨"WindFarmDispatcherModel", "totalWith", "(II)I"⟩, 17) := ⟨⟨by decide +kernel, by decide +kernel⟩, List.mem_of_getElem? (i := 1212) (by decide +kernel), List.mem_of_getElem? (i := 1573) (by decide +kernel), List.mem_of_getElem? (i := 1574) (by decide +kernel)⟩
theorem lw_p65 : lw_okq (⟨"WindFarmDispatcherModel", "isBid", "(I)Z"⟩, 17) := ⟨⟨by decide +kernel, by decide +kernel⟩, List.mem_of_getElem? (i := 1212) (by decide +kernel), List.mem_of_getElem? (i := 1593) (by decide +kernel), List.mem_of_getElem? (i := 1594) (by decide +kernel)⟩
theorem lw_p66 : lw_okq (⟨"WindFarmDispatcherModel", "writesNumber", "(I)V"⟩, 17) := ⟨⟨by decide +kernel, by decide +kernel⟩, List.mem_of_getElem? (i := 1212) (by decide +kernel), List.mem_of_getElem? (i := 1657) (by decide +kernel), List.mem_of_getElem? (i := 1658) (by decide +kernel)⟩
theorem lw_p67 : lw_okq (⟨"WindFarmDispatcherModel", "writes", "(I)V"⟩, 17) := ⟨⟨by decide +kernel, by decide +kernel⟩, List.mem_of_getElem? (i := 1212) (by decide +kernel), List.mem_of_getElem? (i := 1661) (by decide +kernel), List.mem_of_getElem? (i := 1662) (by decide +kernel)⟩
theorem lw_p68 : lw_okq (⟨"WindFarmDispatcherModel", "writesBehind", "(II)V"⟩, 17) := ⟨⟨by decide +kernel, by decide +kernel⟩, List.mem_of_getElem? (i := 1212) (by decide +kernel), List.mem_of_getElem? (i := 1665) (by decide +kernel), List.mem_of_getElem? (i := 1666) (by decide +kernel)⟩
theorem lw_p69 : lw_okq (⟨"WindFarmDispatcherModel", "parse", "()V"⟩, 17) := ⟨⟨by decide +kernel, by decide +kernel⟩, List.mem_of_getElem? (i := 1212) (by decide +kernel), List.mem_of_getElem? (i := 1681) (by decide +kernel), List.mem_of_getElem? (i := 1682) (by decide +kernel)⟩
theorem lw_p70 : lw_okq (⟨"WindFarmDispatcherModel", "command", "()V"⟩, 17) := ⟨⟨by decide +kernel, by decide +kernel⟩, List.mem_of_getElem? (i := 1212) (by decide +kernel), List.mem_of_getElem? (i := 1685) (by decide +kernel), List.mem_of_getElem? (i := 1686) (by decide +kernel)⟩
theorem lw_p71 : lw_okq (⟨"WindFarmDispatcherModel", "sign", "()I"⟩, 17) := ⟨⟨by decide +kernel, by decide +kernel⟩, List.mem_of_getElem? (i := 1212) (by decide +kernel), List.mem_of_getElem? (i := 1689) (by decide +kernel), List.mem_of_getElem? (i := 1690) (by decide +kernel)⟩
theorem lw_p72 : lw_okq (⟨"WindFarmDispatcherModel", "number", "(I)I"⟩, 17) := ⟨⟨by decide +kernel, by decide +kernel⟩, List.mem_of_getElem? (i := 1212) (by decide +kernel), List.mem_of_getElem? (i := 1696) (by decide +kernel), List.mem_of_getElem? (i := 1697) (by decide +kernel)⟩
theorem lw_p73 : lw_okq (⟨"WindFarmDispatcherModel", "way", "()I"⟩, 17) := ⟨⟨by decide +kernel, by decide +kernel⟩, List.mem_of_getElem? (i := 1212) (by decide +kernel), List.mem_of_getElem? (i := 1700) (by decide +kernel), List.mem_of_getElem? (i := 1701) (by decide +kernel)⟩
theorem lw_p74 : lw_okq (⟨"WindFarmDispatcherModel", "behind", "(I)I"⟩, 17) := ⟨⟨by decide +kernel, by decide +kernel⟩, List.mem_of_getElem? (i := 1212) (by decide +kernel), List.mem_of_getElem? (i := 1704) (by decide +kernel), List.mem_of_getElem? (i := 1705) (by decide +kernel)⟩
theorem lw_p75 : lw_okq (⟨"WindFarmDispatcherModel", "needs", "(I)V"⟩, 17) := ⟨⟨by decide +kernel, by decide +kernel⟩, List.mem_of_getElem? (i := 1212) (by decide +kernel), List.mem_of_getElem? (i := 1708) (by decide +kernel), List.mem_of_getElem? (i := 1709) (by decide +kernel)⟩
theorem lw_p76 : lw_okq (⟨"WindFarmDispatcherModel", "does", "(I)I"⟩, 17) := ⟨⟨by decide +kernel, by decide +kernel⟩, List.mem_of_getElem? (i := 1212) (by decide +kernel), List.mem_of_getElem? (i := 1712) (by decide +kernel), List.mem_of_getElem? (i := 1713) (by decide +kernel)⟩
def lw_privs_5 : List (MethodName × Nat) := [(⟨"WindFarmDispatcherModel", "totalWith", "(II)I"⟩, 17), (⟨"WindFarmDispatcherModel", "isBid", "(I)Z"⟩, 17), (⟨"WindFarmDispatcherModel", "writesNumber", "(I)V"⟩, 17), (⟨"WindFarmDispatcherModel", "writes", "(I)V"⟩, 17), (⟨"WindFarmDispatcherModel", "writesBehind", "(II)V"⟩, 17), (⟨"WindFarmDispatcherModel", "parse", "()V"⟩, 17), (⟨"WindFarmDispatcherModel", "command", "()V"⟩, 17), (⟨"WindFarmDispatcherModel", "sign", "()I"⟩, 17), (⟨"WindFarmDispatcherModel", "number", "(I)I"⟩, 17), (⟨"WindFarmDispatcherModel", "way", "()I"⟩, 17), (⟨"WindFarmDispatcherModel", "behind", "(I)I"⟩, 17), (⟨"WindFarmDispatcherModel", "needs", "(I)V"⟩, 17), (⟨"WindFarmDispatcherModel", "does", "(I)I"⟩, 17)]
theorem lw_r5 : ∀ q ∈ lw_privs_5, lw_okq q := List.forall_mem_cons.mpr ⟨lw_p64, List.forall_mem_cons.mpr ⟨lw_p65, List.forall_mem_cons.mpr ⟨lw_p66, List.forall_mem_cons.mpr ⟨lw_p67, List.forall_mem_cons.mpr ⟨lw_p68, List.forall_mem_cons.mpr ⟨lw_p69, List.forall_mem_cons.mpr ⟨lw_p70, List.forall_mem_cons.mpr ⟨lw_p71, List.forall_mem_cons.mpr ⟨lw_p72, List.forall_mem_cons.mpr ⟨lw_p73, List.forall_mem_cons.mpr ⟨lw_p74, List.forall_mem_cons.mpr ⟨lw_p75, List.forall_mem_cons.mpr ⟨lw_p76, fun _ h => absurd h List.not_mem_nil⟩⟩⟩⟩⟩⟩⟩⟩⟩⟩⟩⟩⟩
def lw_privs : List (MethodName × Nat) := lw_privs_1 ++ (lw_privs_2 ++ (lw_privs_3 ++ (lw_privs_4 ++ (lw_privs_5))))
def lw_tbl : List Cond := k2_sels lw_privs ++ tables_1
theorem lw_privs_ok : ∀ q ∈ lw_privs, lw_okq q := by
  show ∀ q ∈ lw_privs_1 ++ (lw_privs_2 ++ (lw_privs_3 ++ (lw_privs_4 ++ (lw_privs_5)))), lw_okq q
  exact List.forall_mem_append.mpr ⟨lw_r1, List.forall_mem_append.mpr ⟨lw_r2, List.forall_mem_append.mpr ⟨lw_r3, List.forall_mem_append.mpr ⟨lw_r4, lw_r5⟩⟩⟩⟩
/-- the streams that the claim lets the run draw from -/
abbrev lw_cs : List Choice := [Jvm.Choice.named "NaN.bits"]
theorem lw_bits : nanBits ∈ lw_cs := by first | decide | exact List.mem_cons_self | simp [lw_cs, nanBits]
end
section
/-! ===== BEGIN words of one list among another's, by their places ===== -/
theorem goodIn_r {big : List Cond} (ws : List Cond) (ps : List Nat) (hp : ws = ps.filterMap (fun i => big[i]?)) (h : ws.all goodWord = true) : GoodIn big ws := by
  intro w hw
  have h1 := List.all_eq_true.mp h w hw
  rw [hp] at hw
  obtain ⟨i, -, hi⟩ := List.mem_filterMap.mp hw
  have hm : w ∈ big := by first | exact List.mem_of_getElem? hi | exact List.getElem?_mem hi
  exact ⟨hm, good_of_word h1⟩
theorem goodIn_app {big a b : List Cond} (ha : GoodIn big a) (hb : GoodIn big b) : GoodIn big (a ++ b) := fun w h => (List.mem_append.mp h).elim (ha w) (hb w)
theorem goodIn_ca {big a b : List Cond} {c : Cond} (ha : GoodIn big (c :: a)) (hb : GoodIn big b) : GoodIn big (c :: (a ++ b)) := fun w h => (List.mem_cons.mp h).elim (fun e => ha w (List.mem_cons.mpr (Or.inl e))) (fun h => (List.mem_append.mp h).elim (fun h => ha w (List.mem_cons.mpr (Or.inr h))) (hb w))
theorem goodIn_sub {big ws : List Cond} (hm : ∀ w ∈ ws, w ∈ big) (h : ws.all goodWord = true) : GoodIn big ws := fun w hw => ⟨hm w hw, good_of_word (List.all_eq_true.mp h w hw)⟩
/-! ===== END ===== -/
/-! ===== BEGIN exceptions that leave a method, and their catching by the caller (launches without stack traces) ===== -/
section VXA
/-! The laws vx_back, vx_callV, vx_callS, vx_callSW, vx_throw0, vx_throwS follow proofs of the library, with one case more: JvmDerived/Free/Laws.lean (Back.of_free), Shelf42/LK1.lean (callV, callS), Shelf/KitTraced.lean (throwNew0V, throwNewS). -/
/-- where a method has thrown q: the class by its name, the cell, what was written, the world -/
def vx_T (XC : String → State → State → Prop) (st : State) (q : Addr) (t : State) (mc ms : Nat) (free : Addr → Prop) : Prop :=
  ∃ (E : String) (ce : Cell) (L : List Loc), XC E st t ∧ t.heap[q]? = some ce ∧ ce.vm = .none ∧ st.vm.findClass E = some ce.cls ∧ st.WarmedH t.vm ∧ st.sameButNew ({ t with vm := st.vm } : State) L mc ms ∧ ∀ z ∈ L, free z.base
def vx_Q (Qc : Array Value → State → Outcome → State → Prop) (XC : String → State → State → Prop) (mc ms : Nat) (free : Addr → Prop) : Array Value → State → Outcome → State → Prop := fun a st o t =>
  (Qc a st o t ∧ ∃ L, FrameEnd st o t L mc ms ∧ ∀ q ∈ L, free q.base) ∨ ∃ q, o = .threw q ∧ vx_T XC st q t mc ms free
/-- a callee that returns or throws -/
def vx_Met (l : Launch) (y : MethodName) (ws : List Cond) (rm : Room) (Pc : Array Value → State → Prop) (Qc : Array Value → State → Outcome → State → Prop) (XC : String → State → State → Prop) (mc ms : Nat) (free : Addr → Prop) : Prop :=
  MetFree l y (headSpec ws rm) Pc (fun _ _ _ _ _ => True) (vx_Q Qc XC mc ms free)
def vx_Post (XC : String → State → State → Prop) (mc ms : Nat) (free : Addr → Prop) : Pt → Array Value → Addr → Pt → Prop := fun A a q B =>
  ∃ (g : JFrame) (mk : MethodId) (t : State) (L : List Loc) (E : String) (ce : Cell), B.U.heap = t.heap ∧ B.U.vm = t.vm ∧ XC E (A.U.calling g mk a) t ∧ t.heap[q]? = some ce ∧ ce.vm = .none ∧ A.U.vm.findClass E = some ce.cls ∧ B.locs = A.locs ++ L ∧ (∀ z ∈ L, free z.base) ∧ B.cells = A.cells + mc ∧ B.slots = A.slots + ms
def vx_Back (l : Launch) (R : Room) (p : Program) (e : Env) (below : List Frame) (s : State) (sargs : Array Value) (y : MethodName) (len W9 : Nat)
    (Pre : Pt → Array Value → Prop) (Post : Pt → Array Value → Option Value → Pt → Prop) (PostX : Pt → Array Value → Addr → Pt → Prop) : Prop :=
  ∀ (m : MethodId) (meth : Method) (c : Code) (A : Pt) (g : JFrame) (ig : Instr) (mk : MethodId) (a : Array Value),
    Stand p l e R s m sargs below meth c A.U A.locs A.cells A.slots → g.method = m → g.locals.size = c.maxLocals → decode c.code g.pc = .ok (ig, len) →
    2 * g.monitorRoom + (g.stack.map fun v => v.category).sum ≤ W9 → A.U.methodNamed? y = some mk → Pre A a →
    (∃ (v : Option Value) (B : Pt), Stand p l e R s m sargs below meth c B.U B.locs B.cells B.slots ∧ Post A a v B ∧
      Steps p.tables e below (doInvoke e (A.U.setTop g) [] mk a).1 (B.U.setTop { g with pc := g.pc + len, stack := v.toList ++ g.stack })) ∨
    (∃ (q : Addr) (B : Pt), Stand p l e R s m sargs below meth c B.U B.locs B.cells B.slots ∧ PostX A a q B ∧
      Steps p.tables e below (doInvoke e (A.U.setTop g) [] mk a).1 ((B.U.setTop g).pushFrame (.throwing q)))
section Payer
variable {l : Launch} {R : Room} {p : Program} {e : Env} {below : List Frame} {s : State} {sargs : Array Value} {y : MethodName} {len W9 : Nat}
theorem vx_back {ws : List Cond} {rm : Room} {Pc : Array Value → State → Prop} {Qc : Array Value → State → Outcome → State → Prop} {XC : String → State → State → Prop} {mc ms : Nat} {free : Addr → Prop} {bytes : ByteArray} {maxL : Nat} {ret : Option FieldType}
    (hM : vx_Met l y ws rm Pc Qc XC mc ms free) (hblind : FrameBlind Pc) (hrc : rm.cells = mc) (hrs : rm.slots = ms)
    (hframes : rm.frames + 1 ≤ R.frames) (hlocals : W9 + (maxL + 11) + rm.locals ≤ R.locals)
    (hws : ∀ w ∈ ws, ∀ a' U, s.WarmedH U.vm → w.before a' U = true) (hcode : Cond.code y bytes maxL ret ∈ ws) (hinit : ∀ a' U, s.WarmedH U.vm → (Cond.initialized y.cls).before a' U = true) :
    vx_Back l R p e below s sargs y len W9 (PreOf R mc ms Pc) (PostOf Qc mc ms free) (vx_Post XC mc ms free) := by
  intro m meth c A g ig mk a X hg hsize hdg hW hn hp
  have h1 : (headSpec ws rm).pre.before a A.U = true := atoms_intro fun w hw => hws w hw _ _ X.warmed
  have h2 : (Cond.code y bytes maxL ret).before a A.U = true := hws _ hcode _ _ X.warmed
  have h3 : (Cond.initialized y.cls).before a A.U = true := hinit _ _ X.warmed
  have h4 : A.cells + (headSpec ws rm).room.cells ≤ R.cells := by rw [show (headSpec ws rm).room.cells = mc from hrc]; exact hp.1
  have h5 : A.slots + (headSpec ws rm).room.slots ≤ R.slots := by rw [show (headSpec ws rm).room.slots = ms from hrs]; exact hp.2.1
  have hPc : Pc a (A.U.calling g mk a) := hblind _ _ _ _ hp.2.2
  obtain ⟨U, Ls, c0, s0⟩ := A
  dsimp only [Pt.U, Pt.locs, Pt.cells, Pt.slots] at h1 h2 h3 h4 h5 X hn hPc ⊢
  obtain ⟨methY, cY, hmY, hcY, -, hlY, -, -, -, -⟩ := Cond.code_spec hn h2
  obtain ⟨kY, hkY, -⟩ := className_of_methodNamed hn
  have hinitY : kY.init = .initialized := Cond.initialized_spec (findClass_of_methodNamed hn) hkY h3
  have h : At U g.method c below := by rw [hg]; exact X.here
  have hlocals9 : W9 + (maxL + 11) + (headSpec ws rm).room.locals ≤ R.locals := hlocals
  have happ : (headSpec ws rm).appliesLoose y e.platform (U.calling g mk a) = true :=
    Spec.appliesLoose_calling (g := g) h hdg hn hkY hinitY
      (X.room_calling (g := g) (R' := (headSpec ws rm).room) hsize hmY hcY hframes (by rw [hlY]; omega) h4 h5) h1
  obtain ⟨mid, hmid⟩ := h.above
  have hfr : (U.setTop g).frames = (.java g :: mid) ++ below := by rw [State.frames_setTop' g h.top, hmid]; rfl
  obtain ⟨o, s₂, hsteps, -, hend, hq⟩ := Steps.callFree hM p X.admits X.cas X.clock (acts := []) hfr happ hPc trivial
  have hq' : vx_Q Qc XC mc ms free a (U.calling g mk a) o s₂ := hq
  rw [State.frames_setTop' g h.top] at hend
  obtain ⟨g₀, hg0⟩ := Option.isSome_iff_exists.mp h.top
  obtain ⟨r, hr⟩ := State.topJava?_eq_some.mp hg0
  have hr' : (({ U with heap := s₂.heap, slotsUsed := s₂.slotsUsed } : State).setVm s₂.vm).frames = .java g₀ :: r := hr
  rcases hq' with ⟨hqc, L, hfe, hL⟩ | ⟨q, rfl, E, ce, L, hx, hce, hcv, hcl, hW₂, hsm, hL⟩
  · obtain ⟨⟨v, rfl⟩, hW₂, e2, q2, q3, q4, q5, q6⟩ := id hfe
    have e3 : s₂ = ({ (U.calling g mk a).setFrames s₂.frames with heap := s₂.heap, slotsUsed := s₂.slotsUsed } : State).setVm s₂.vm := by
      have : s₂ = ({ s₂ with vm := (U.calling g mk a).vm } : State).setVm s₂.vm := rfl
      rw [e2] at this
      exact this
    obtain ⟨c₂, i₂, len₂, hc₂, hd₂, hf₂⟩ := hend
    have hW' : U.WarmedH s₂.vm := hW₂
    have hcc : c₂ = c := by
      have h1 : s₂.code? g.method = U.code? g.method := by
        rw [State.code?_eq, State.code?_eq, hW'.alike.method?]
      exact Option.some.inj (hc₂.symm.trans (h1.trans h.code))
    subst hcc
    have hlen : len₂ = len := by rw [hdg] at hd₂; cases hd₂; rfl
    subst hlen
    have hs₂ : s₂ = (({ U with heap := s₂.heap, slotsUsed := s₂.slotsUsed } : State).setVm s₂.vm).setTop { g with pc := g.pc + len₂, stack := v.toList ++ g.stack } := by
      refine e3.trans ?_
      rw [hf₂, State.calling_eq h.top, State.setFrames_setFrames, State.setTop_of_frames _ hr', hr]
      rfl
    have hsame : U.sameButNew ({ U with heap := s₂.heap, slotsUsed := s₂.slotsUsed } : State) L mc ms := by
      refine ⟨?_, q2, q3, q4, q5, q6⟩
      obtain ⟨t, ht, -⟩ := State.frames_cons hr
      show ({ U with heap := s₂.heap, slotsUsed := s₂.slotsUsed } : State) = { U.setFrames U.frames with heap := s₂.heap, slotsUsed := s₂.slotsUsed }
      rw [State.setFrames_self ht]
    subst hg
    refine Or.inl ⟨v, ⟨(({ U with heap := s₂.heap, slotsUsed := s₂.slotsUsed } : State).setVm s₂.vm), Ls ++ L, c0 + mc, s0 + ms⟩,
      ⟨X.admits, X.cas, X.clock, X.frames, X.room, X.hears, X.method, X.code, (X.here.setHeapUsed s₂.heap s₂.slotsUsed).setVm hW'.alike, X.tail, State.WarmedH.trans X.warmed hW', X.limits, X.bytes, X.same.trans (hsame.setVm s.vm)⟩,
      ⟨g, mk, s₂, L, rfl, rfl, hqc, rfl, hL, rfl, rfl⟩, ?_⟩
    show Steps p.tables e below _ ((({ U with heap := s₂.heap, slotsUsed := s₂.slotsUsed } : State).setVm s₂.vm).setTop { g with pc := g.pc + len₂, stack := v.toList ++ g.stack })
    rw [← hs₂]
    exact hsteps
  · obtain ⟨e2, q2, q3, q4, q5, q6⟩ := id hsm
    have e3 : s₂ = ({ (U.calling g mk a).setFrames s₂.frames with heap := s₂.heap, slotsUsed := s₂.slotsUsed } : State).setVm s₂.vm := by
      have : s₂ = ({ s₂ with vm := (U.calling g mk a).vm } : State).setVm s₂.vm := rfl
      rw [e2] at this
      exact this
    have hf₂ : s₂.frames = .throwing q :: .java g :: U.frames.tail := hend
    have hW' : U.WarmedH s₂.vm := hW₂
    have hs₂ : s₂ = ((({ U with heap := s₂.heap, slotsUsed := s₂.slotsUsed } : State).setVm s₂.vm).setTop g).pushFrame (.throwing q) := by
      refine e3.trans ?_
      rw [hf₂, State.calling_eq h.top, State.setFrames_setFrames, State.pushFrame, State.frames_setTop _ hr', State.setTop_of_frames _ hr', State.setFrames_setFrames, hr]
      rfl
    have hsame : U.sameButNew ({ U with heap := s₂.heap, slotsUsed := s₂.slotsUsed } : State) L mc ms := by
      refine ⟨?_, q2, q3, q4, q5, q6⟩
      obtain ⟨t, ht, -⟩ := State.frames_cons hr
      show ({ U with heap := s₂.heap, slotsUsed := s₂.slotsUsed } : State) = { U.setFrames U.frames with heap := s₂.heap, slotsUsed := s₂.slotsUsed }
      rw [State.setFrames_self ht]
    subst hg
    refine Or.inr ⟨q, ⟨(({ U with heap := s₂.heap, slotsUsed := s₂.slotsUsed } : State).setVm s₂.vm), Ls ++ L, c0 + mc, s0 + ms⟩,
      ⟨X.admits, X.cas, X.clock, X.frames, X.room, X.hears, X.method, X.code, (X.here.setHeapUsed s₂.heap s₂.slotsUsed).setVm hW'.alike, X.tail, State.WarmedH.trans X.warmed hW', X.limits, X.bytes, X.same.trans (hsame.setVm s.vm)⟩,
      ⟨g, mk, s₂, L, E, ce, rfl, rfl, hx, hce, hcv, hcl, rfl, hL, rfl, rfl⟩, ?_⟩
    show Steps p.tables e below _ (((({ U with heap := s₂.heap, slotsUsed := s₂.slotsUsed } : State).setVm s₂.vm).setTop g).pushFrame (.throwing q))
    rw [← hs₂]
    exact hsteps
end Payer
section Calls
variable {p : Program} {l : Launch} {e : Env} {R : Room} {s : State} {m : MethodId} {args : Array Value} {below : List Frame} {meth : Method} {c : Code} {T : State} {locs : List Loc} {cells slots : Nat}
theorem vx_callV (X : Stand p l e R s m args below meth c T locs cells slots) (hexec : p.tables.exec = Jvm.exec) {own C : String} {index : Nat} {y : MethodName} {bytes : ByteArray} {maxL : Nat} {ret : Option FieldType}
    (hown : s.vm.findClass own = some m.cls) (hlink : (Cond.methodLink own index y).before args s = true) (hinst : (Cond.instanceMethod y).before args s = true) (hsel : (Cond.selects C y y).before args s = true)
    (hcode : (Cond.code y bytes maxL ret).before args s = true) (hy : y.cls ≠ "java/lang/invoke/MethodHandle" ∧ y.cls ≠ "java/lang/invoke/VarHandle")
    {W9 : Nat} {Pre : Pt → Array Value → Prop} {Post : Pt → Array Value → Option Value → Pt → Prop} {PostX : Pt → Array Value → Addr → Pt → Prop} (hK : vx_Back l R p e below s args y 3 W9 Pre Post PostX)
    {b : Addr} {cellB : Cell} (hcell : T.heap[b]? = some cellB) (hobj : cellB.vm.isStatics = false) (hcls : s.vm.findClass C = some cellB.cls)
    {g : JFrame} (hg : g.method = m) (hsize : g.locals.size = c.maxLocals) {argsL rest : List Value} (hlen : ∀ sig, parseMethodDescriptor y.desc = some sig → argsL.length = sig.parameters.length)
    (hstack : g.stack = argsL.reverse ++ .ref b :: rest) (hW : 2 * g.monitorRoom + (rest.map fun v => v.category).sum ≤ W9) (hdg : decode c.code g.pc = .ok (.invokevirtual index, 3))
    (hpre : ∀ vm₁, s.WarmedH vm₁ → Pre ⟨T.setVm vm₁, locs, cells, slots⟩ (Value.ref b :: argsL).toArray) :
    (∃ (v : Option Value) (vm₁ : Vm) (B : Pt), s.WarmedH vm₁ ∧ Stand p l e R s m args below meth c B.U B.locs B.cells B.slots ∧ Post ⟨T.setVm vm₁, locs, cells, slots⟩ (Value.ref b :: argsL).toArray v B ∧
      ∀ target, Steps p.tables e below (B.U.setTop { g with pc := g.pc + 3, stack := v.toList ++ rest }) target → Steps p.tables e below (T.setTop g) target) ∨
    (∃ (q : Addr) (vm₁ : Vm) (B : Pt), s.WarmedH vm₁ ∧ Stand p l e R s m args below meth c B.U B.locs B.cells B.slots ∧ PostX ⟨T.setVm vm₁, locs, cells, slots⟩ (Value.ref b :: argsL).toArray q B ∧
      Steps p.tables e below (T.setTop g) ((B.U.setTop { g with stack := rest }).pushFrame (.throwing q))) := by
  obtain ⟨mk, methM, hnamed, hmethM, hstM, habM⟩ := Cond.instanceMethod_spec hinst
  obtain ⟨methM', cM, hmethM', -, -, -, -, -, -, hsigM⟩ := Cond.code_spec hnamed hcode
  cases hmethM.symm.trans hmethM'
  obtain ⟨c2, r2, m2, q1, q2, q3, q4, kP, hkP, hkPi⟩ := Cond.selects_spec hsel
  cases hcls.symm.trans q1
  cases (State.methodFound?_of_named hnamed hy).symm.trans q2
  cases hnamed.symm.trans q3
  have hselP : selectMethod e.platform s.vm cellB.cls mk = .method mk := by rw [Launch.admits_selectMethod X.admits]; exact q4
  obtain ⟨vm₁, X₁, hstep₁⟩ := X.invokevirtual hexec hown hlink hnamed hmethM hstM hkP hkPi hy (a := b) (cell := cellB) hcell
    (fun z h => by rw [h] at hobj; cases hobj) hselP hmethM habM hkP hkPi (g := g) hg (argsL := argsL) (rest := rest) (hlen _ hsigM) hstack hdg
  rcases hK m meth c ⟨T.setVm vm₁, locs, cells, slots⟩ { g with stack := rest } (.invokevirtual index) mk (Value.ref b :: argsL).toArray X₁ hg hsize hdg hW (X₁.named hnamed) (hpre vm₁ X₁.warmed) with ⟨v, B, X', hpost, hsteps⟩ | ⟨q, B, X', hpost, hsteps⟩
  · exact Or.inl ⟨v, vm₁, B, X₁.warmed, X', hpost, fun target h => hstep₁ _ fun acts => by rw [doInvoke_state]; exact hsteps.trans h⟩
  · exact Or.inr ⟨q, vm₁, B, X₁.warmed, X', hpost, hstep₁ _ fun acts => by rw [doInvoke_state]; exact hsteps⟩
theorem vx_callS (X : Stand p l e R s m args below meth c T locs cells slots) (hexec : p.tables.exec = Jvm.exec) {own : String} {index : Nat} {y : MethodName} {bytes : ByteArray} {maxL : Nat} {ret : Option FieldType}
    (hown : s.vm.findClass own = some m.cls) (hlink : (Cond.methodLink own index y).before args s = true) (hstat : (Cond.static y).before args s = true) (hinit : (Cond.initialized y.cls).before args s = true)
    (hcode : (Cond.code y bytes maxL ret).before args s = true) (hy : y.cls ≠ "java/lang/invoke/MethodHandle" ∧ y.cls ≠ "java/lang/invoke/VarHandle")
    {W9 : Nat} {Pre : Pt → Array Value → Prop} {Post : Pt → Array Value → Option Value → Pt → Prop} {PostX : Pt → Array Value → Addr → Pt → Prop} (hK : vx_Back l R p e below s args y 3 W9 Pre Post PostX)
    {g : JFrame} (hg : g.method = m) (hsize : g.locals.size = c.maxLocals) {argsL rest : List Value} (hlen : ∀ sig, parseMethodDescriptor y.desc = some sig → argsL.length = sig.parameters.length)
    (hstack : g.stack = argsL.reverse ++ rest) (hW : 2 * g.monitorRoom + (rest.map fun v => v.category).sum ≤ W9) (hdg : decode c.code g.pc = .ok (.invokestatic index, 3))
    (hpre : ∀ vm₁, s.WarmedH vm₁ → Pre ⟨T.setVm vm₁, locs, cells, slots⟩ argsL.toArray) :
    (∃ (v : Option Value) (vm₁ : Vm) (B : Pt), s.WarmedH vm₁ ∧ Stand p l e R s m args below meth c B.U B.locs B.cells B.slots ∧ Post ⟨T.setVm vm₁, locs, cells, slots⟩ argsL.toArray v B ∧
      ∀ target, Steps p.tables e below (B.U.setTop { g with pc := g.pc + 3, stack := v.toList ++ rest }) target → Steps p.tables e below (T.setTop g) target) ∨
    (∃ (q : Addr) (vm₁ : Vm) (B : Pt), s.WarmedH vm₁ ∧ Stand p l e R s m args below meth c B.U B.locs B.cells B.slots ∧ PostX ⟨T.setVm vm₁, locs, cells, slots⟩ argsL.toArray q B ∧
      Steps p.tables e below (T.setTop g) ((B.U.setTop { g with stack := rest }).pushFrame (.throwing q))) := by
  obtain ⟨mk, hnamed⟩ := Cond.code_named hcode
  obtain ⟨methM, cM, hmethM, -, -, -, -, -, -, hsigM⟩ := Cond.code_spec hnamed hcode
  have hstatic : methM.isStatic = true := Cond.static_spec hnamed hmethM hstat
  obtain ⟨kP, hkP, -⟩ := className_of_methodNamed hnamed
  have hinitP : kP.init = .initialized := Cond.initialized_spec (findClass_of_methodNamed hnamed) hkP hinit
  obtain ⟨vm₁, X₁, hstep₁⟩ := X.invokestatic hexec hown hlink hnamed hmethM hstatic hkP hinitP hy (g := g) hg (argsL := argsL) (rest := rest) (hlen _ hsigM) hstack hdg
  rcases hK m meth c ⟨T.setVm vm₁, locs, cells, slots⟩ { g with stack := rest } (.invokestatic index) mk argsL.toArray X₁ hg hsize hdg hW (X₁.named hnamed) (hpre vm₁ X₁.warmed) with ⟨v, B, X', hpost, hsteps⟩ | ⟨q, B, X', hpost, hsteps⟩
  · exact Or.inl ⟨v, vm₁, B, X₁.warmed, X', hpost, fun target h => hstep₁ _ fun acts => by rw [doInvoke_state]; exact hsteps.trans h⟩
  · exact Or.inr ⟨q, vm₁, B, X₁.warmed, X', hpost, hstep₁ _ fun acts => by rw [doInvoke_state]; exact hsteps⟩
end Calls
theorem vx_cls {s : State} {T : State} {vm₁ : Vm} {E : String} {k : ClassId} (hW : s.WarmedH vm₁) (h : (T.setVm vm₁).vm.findClass E = some k) : s.vm.findClass E = some k := by
  have h1 : vm₁.findClass E = some k := h
  rw [hW.alike.findClass] at h1
  exact h1
/-- the method's frame g, with q thrown over it -/
def vx_W (p : Program) (l : Launch) (e : Env) (R : Room) (s : State) (m : MethodId) (args : Array Value) (below : List Frame) (meth : Method) (c : Code) (H : Heap) (locs : List Loc) (cells slots : Nat) (Q : State → Prop) (g : JFrame) (q : Addr) : Prop :=
  ∀ T : State, T.heap = H → Stand p l e R s m args below meth c T locs cells slots → ∃ t, Steps p.tables e below ((T.setTop g).pushFrame (.throwing q)) t ∧ Q t
def vx_Run (p : Program) (l : Launch) (e : Env) (R : Room) (s : State) (m : MethodId) (args : Array Value) (below : List Frame) (meth : Method) (c : Code) (H : Heap) (locs : List Loc) (cells slots mc ms : Nat) (g : JFrame) (rest : List Value) (Qa : State → Outcome → State → Prop) (XC : String → State → State → Prop) (free : Addr → Prop) : Prop :=
  ∀ T : State, T.heap = H → Stand p l e R s m args below meth c T locs cells slots →
    (∃ (v : Option Value) (st₀ t T' : State) (L : List Loc), st₀.heap = H ∧ Stand p l e R s m args below meth c T' (locs ++ L) (cells + mc) (slots + ms) ∧ (∀ q ∈ L, free q.base) ∧ T'.heap = t.heap ∧ T'.vm = t.vm ∧ Qa st₀ (.returned v) t ∧
      Goes p e below T g T' { g with pc := g.pc + 3, stack := v.toList ++ rest }) ∨
    (∃ (q : Addr) (st₀ t T' : State) (L : List Loc) (E : String) (ce : Cell), st₀.heap = H ∧ Stand p l e R s m args below meth c T' (locs ++ L) (cells + mc) (slots + ms) ∧ (∀ z ∈ L, free z.base) ∧ T'.heap = t.heap ∧ T'.vm = t.vm ∧ XC E st₀ t ∧ t.heap[q]? = some ce ∧ ce.vm = .none ∧ s.vm.findClass E = some ce.cls ∧
      Steps p.tables e below (T.setTop g) ((T'.setTop { g with stack := rest }).pushFrame (.throwing q)))
def vx_X {S : Type} (px : S → Prop) (B : String → S → State → Prop) (A : Nat → Prop) : String → State → State → Prop := fun E st t => ∃ u : S, px u ∧ B E u t ∧ va_F A st t
section Runs
variable {p : Program} {l : Launch} {e : Env} {R : Room} {s : State} {m : MethodId} {args : Array Value} {below : List Frame} {meth : Method} {c : Code} {H : Heap} {locs : List Loc} {cells slots : Nat}
variable {y : MethodName} {bytes cc : ByteArray} {maxL nL mc ms n index : Nat} {ret : Option FieldType} {ws : List Cond} {rm : Room} {Pc : Array Value → State → Prop} {Qc : Array Value → State → Outcome → State → Prop} {XC : String → State → State → Prop} {free : Addr → Prop} {Ts : List Cond} {own C : String} {b : Addr} {As rest : List Value} {g : JFrame}
theorem vx_callBack (cb : CallB R s args own index y bytes maxL ret ws rm mc ms n) (hM : vx_Met l y ws rm Pc Qc XC mc ms free) (hbl : FrameBlind Pc) : vx_Back l R p e below s args y 3 8 (PreOf R mc ms Pc) (PostOf Qc mc ms free) (vx_Post XC mc ms free) := by
  obtain ⟨hrc, hrs, hfr, hlo, hws, hcw, -, hini, -⟩ := cb
  exact vx_back (bytes := bytes) (maxL := maxL) (ret := ret) hM hbl hrc hrs hfr hlo hws hcw (fun a' U hW => word_at hW (Or.inl (by first | rfl | simp [Cond.onTables, Cond.keeps, Cond.steady])) hini)
theorem vx_runV (S : CallFix p m c cc nL s args Ts own) (hM : vx_Met l y ws rm Pc Qc XC mc ms free) (cw : CallW R s args own C index y bytes maxL ret ws rm mc ms n) (hp : PreV s H C b Pc As)
    (hg : g.method = m) (hn : As.length = n) (hsize : g.locals.size = nL) (hstack : g.stack = As.reverse ++ .ref b :: rest) (hW : 2 * g.monitorRoom + (rest.map fun v => v.category).sum ≤ 8) (hdg : decode cc g.pc = .ok (.invokevirtual index, 3)) (hf : cells + mc ≤ R.cells ∧ slots + ms ≤ R.slots) :
    vx_Run p l e R s m args below meth c H locs cells slots mc ms g rest (Qc (Value.ref b :: As).toArray) XC free := by
  have hK : vx_Back l R p e below s args y 3 8 (PreOf R mc ms Pc) (PostOf Qc mc ms free) (vx_Post XC mc ms free) := vx_callBack cw.1 hM hp.1
  obtain ⟨⟨-, -, -, -, -, -, hcode, -, hy, hlen, hl⟩, hin, hse⟩ := cw
  obtain ⟨hx, hb, hml, ho, -⟩ := S
  obtain ⟨-, ⟨cellB, hcB, hoB, hclB⟩, hPc⟩ := hp
  intro T hT X
  rcases vx_callV X hx (C := C) (bytes := bytes) (maxL := maxL) (ret := ret) ho hl hin hse hcode hy hK (by rw [hT]; exact hcB) hoB hclB hg (hsize.trans hml.symm) (argsL := As) (rest := rest) (fun sig h => hn.trans (hlen sig h)) hstack hW (by rw [hb]; exact hdg)
    (fun vm₁ hW₁ => ⟨hf.1, hf.2, hPc (T.setVm vm₁) hT hW₁⟩) with ⟨v, vm₁, ⟨U', l2, c2, s2⟩, hW₁, X', ⟨g', mk, t, L, e1, e2, hq, h1, hL, h2, h3⟩, st⟩ | ⟨q, vm₁, ⟨U', l2, c2, s2⟩, hW₁, X', ⟨g', mk, t, L, E, ce, e1, e2, hq, hce, hcv, hcl, h1, hL, h2, h3⟩, st⟩
  · dsimp only [Pt.U, Pt.locs, Pt.cells, Pt.slots] at X' e1 e2 h1 h2 h3 st
    subst h1; subst h2; subst h3
    exact Or.inl ⟨v, (T.setVm vm₁).calling g' mk (Value.ref b :: As).toArray, t, U', L, hT, X', hL, e1, e2, hq, st⟩
  · dsimp only [Pt.U, Pt.locs, Pt.cells, Pt.slots] at X' e1 e2 h1 h2 h3 st hcl
    subst h1; subst h2; subst h3
    exact Or.inr ⟨q, (T.setVm vm₁).calling g' mk (Value.ref b :: As).toArray, t, U', L, E, ce, hT, X', hL, e1, e2, hq, hce, hcv, vx_cls hW₁ hcl, st⟩
theorem vx_runS (S : CallFix p m c cc nL s args Ts own) (hM : vx_Met l y ws rm Pc Qc XC mc ms free) (cw : CallB R s args own index y bytes maxL ret ws rm mc ms n ∧ (Cond.static y).before args s = true) (hp : PreS s H Pc As)
    (hg : g.method = m) (hn : As.length = n) (hsize : g.locals.size = nL) (hstack : g.stack = As.reverse ++ rest) (hW : 2 * g.monitorRoom + (rest.map fun v => v.category).sum ≤ 8) (hdg : decode cc g.pc = .ok (.invokestatic index, 3)) (hf : cells + mc ≤ R.cells ∧ slots + ms ≤ R.slots) :
    vx_Run p l e R s m args below meth c H locs cells slots mc ms g rest (Qc As.toArray) XC free := by
  have hK : vx_Back l R p e below s args y 3 8 (PreOf R mc ms Pc) (PostOf Qc mc ms free) (vx_Post XC mc ms free) := vx_callBack cw.1 hM hp.1
  obtain ⟨⟨-, -, -, -, -, -, hcode, hini, hy, hlen, hl⟩, hstt⟩ := cw
  obtain ⟨hx, hb, hml, ho, -⟩ := S
  intro T hT X
  rcases vx_callS X hx (bytes := bytes) (maxL := maxL) (ret := ret) ho hl hstt hini hcode hy hK hg (hsize.trans hml.symm) (argsL := As) (rest := rest) (fun sig h => hn.trans (hlen sig h)) hstack hW (by rw [hb]; exact hdg)
    (fun vm₁ hW₁ => ⟨hf.1, hf.2, hp.2 (T.setVm vm₁) hT hW₁⟩) with ⟨v, vm₁, ⟨U', l2, c2, s2⟩, hW₁, X', ⟨g', mk, t, L, e1, e2, hq, h1, hL, h2, h3⟩, st⟩ | ⟨q, vm₁, ⟨U', l2, c2, s2⟩, hW₁, X', ⟨g', mk, t, L, E, ce, e1, e2, hq, hce, hcv, hcl, h1, hL, h2, h3⟩, st⟩
  · dsimp only [Pt.U, Pt.locs, Pt.cells, Pt.slots] at X' e1 e2 h1 h2 h3 st
    subst h1; subst h2; subst h3
    exact Or.inl ⟨v, (T.setVm vm₁).calling g' mk As.toArray, t, U', L, hT, X', hL, e1, e2, hq, st⟩
  · dsimp only [Pt.U, Pt.locs, Pt.cells, Pt.slots] at X' e1 e2 h1 h2 h3 st hcl
    subst h1; subst h2; subst h3
    exact Or.inr ⟨q, (T.setVm vm₁).calling g' mk As.toArray, t, U', L, E, ce, hT, X', hL, e1, e2, hq, hce, hcv, vx_cls hW₁ hcl, st⟩
end Runs
section Rows
variable {p : Program} {l : Launch} {e : Env} {R : Room} {s : State} {m : MethodId} {args : Array Value} {below : List Frame} {meth : Method} {c : Code} {H : Heap} {locs : List Loc} {cells slots : Nat} {Q : State → Prop}
variable {mc ms : Nat} {free : Addr → Prop} {A0 A1 : Nat → Prop} {H0 : Heap} {a : Array Value} {pc : Nat} {ls : Array Slot} {st0 rest : List Value}
theorem vx_keep {st₀ t T' : State} {L : List Loc} (h0 : st₀.heap = H) (e1 : T'.heap = t.heap) (hS : va_S A0 H0 H locs) (hA : ∀ q, q < H.size → A1 q → A0 q) (hf : ∀ q, free q → A0 q) (hL : ∀ q ∈ L, free q.base) (hF : va_F A1 st₀ t) :
    H.size ≤ T'.heap.size ∧ (∀ q : Nat, q < H.size → ¬ A1 q → T'.heap[q]? = H[q]?) ∧ va_S A0 H0 T'.heap (locs ++ L) := by
  obtain ⟨hz, hk⟩ := hF
  rw [h0] at hz hk
  exact ⟨by rw [e1]; exact hz, fun q h1 h2 => by rw [e1]; exact hk q h1 h2,
    ⟨Nat.le_trans hS.1 (by rw [e1]; exact hz), fun q h1 h2 => by rw [e1, hk q (Nat.lt_of_lt_of_le h1 hS.1) (fun z => h2 (hA q (Nat.lt_of_lt_of_le h1 hS.1) z))]; exact hS.2.1 q h1 h2, fun q hq => by
      rcases List.mem_append.mp hq with h | h
      · exact hS.2.2 q h
      · exact hf _ (hL q h)⟩⟩
theorem vx_calli {S SX : Type} {post : Int32 → S → Prop} {px : SX → Prop} {B : S → State → Prop} {BX : String → SX → State → Prop} {AX : Nat → Prop} (hr : vx_Run p l e R s m args below meth c H locs cells slots mc ms (F0 m pc ls st0) rest (va_Qi post B A1 a) (vx_X px BX AX) free) (hS : va_S A0 H0 H locs) (hA : ∀ q, q < H.size → A1 q → A0 q) (hf : ∀ q, free q → A0 q) (hAX : ∀ q, q < H.size → AX q → A0 q)
    (kx : ∀ (E : String) (ce : Cell) (q9 : Addr) (u : SX) (t : State) (H1 : Heap) (locs1 : List Loc), t.heap = H1 → s.vm.Alike t.vm → px u → BX E u t → H.size ≤ H1.size → (∀ q : Nat, q < H.size → ¬ AX q → H1[q]? = H[q]?) → va_S A0 H0 H1 locs1 → H1[q9]? = some ce → ce.vm = .none → s.vm.findClass E = some ce.cls → vx_W p l e R s m args below meth c H1 locs1 (cells + mc) (slots + ms) Q (F0 m pc ls rest) q9)
    (kk : ∀ (r : Int32) (u : S) (t : State) (H1 : Heap) (locs1 : List Loc), t.heap = H1 → s.vm.Alike t.vm → post r u → B u t → H.size ≤ H1.size → (∀ q : Nat, q < H.size → ¬ A1 q → H1[q]? = H[q]?) → va_S A0 H0 H1 locs1 → W p l e R s m args below meth c H1 locs1 (cells + mc) (slots + ms) Q (F0 m (pc + 3) ls (.int r :: rest))) : W p l e R s m args below meth c H locs cells slots Q (F0 m pc ls st0) := by
  intro T hT X
  rcases hr T hT X with ⟨v, st₀, t, T', L, h0, X', hL, e1, e2, ⟨⟨r, u, hv, hp, hb⟩, hF⟩, st⟩ | ⟨q, st₀, t, T', L, E, ce, h0, X', hL, e1, e2, ⟨u, hp, hb, hF⟩, hce, hcv, hcl, st⟩
  · cases hv
    obtain ⟨k1, k2, k3⟩ := vx_keep h0 e1 hS hA hf hL hF
    obtain ⟨t2, a1, b1⟩ := kk r u t T'.heap (locs ++ L) e1.symm (by rw [← e2]; exact X'.warmed.alike) hp hb k1 k2 k3 T' rfl X'
    exact ⟨t2, st t2 a1, b1⟩
  · obtain ⟨k1, k2, k3⟩ := vx_keep h0 e1 hS hAX hf hL hF
    obtain ⟨t2, a1, b1⟩ := kx E ce q u t T'.heap (locs ++ L) e1.symm (by rw [← e2]; exact X'.warmed.alike) hp hb k1 k2 k3 (by rw [e1]; exact hce) hcv hcl T' rfl X'
    exact ⟨t2, st.trans a1, b1⟩
theorem vx_calll {S SX : Type} {post : Int64 → S → Prop} {px : SX → Prop} {B : S → State → Prop} {BX : String → SX → State → Prop} {AX : Nat → Prop} (hr : vx_Run p l e R s m args below meth c H locs cells slots mc ms (F0 m pc ls st0) rest (va_Ql post B A1 a) (vx_X px BX AX) free) (hS : va_S A0 H0 H locs) (hA : ∀ q, q < H.size → A1 q → A0 q) (hf : ∀ q, free q → A0 q) (hAX : ∀ q, q < H.size → AX q → A0 q)
    (kx : ∀ (E : String) (ce : Cell) (q9 : Addr) (u : SX) (t : State) (H1 : Heap) (locs1 : List Loc), t.heap = H1 → s.vm.Alike t.vm → px u → BX E u t → H.size ≤ H1.size → (∀ q : Nat, q < H.size → ¬ AX q → H1[q]? = H[q]?) → va_S A0 H0 H1 locs1 → H1[q9]? = some ce → ce.vm = .none → s.vm.findClass E = some ce.cls → vx_W p l e R s m args below meth c H1 locs1 (cells + mc) (slots + ms) Q (F0 m pc ls rest) q9)
    (kk : ∀ (r : Int64) (u : S) (t : State) (H1 : Heap) (locs1 : List Loc), t.heap = H1 → s.vm.Alike t.vm → post r u → B u t → H.size ≤ H1.size → (∀ q : Nat, q < H.size → ¬ A1 q → H1[q]? = H[q]?) → va_S A0 H0 H1 locs1 → W p l e R s m args below meth c H1 locs1 (cells + mc) (slots + ms) Q (F0 m (pc + 3) ls (.long r :: rest))) : W p l e R s m args below meth c H locs cells slots Q (F0 m pc ls st0) := by
  intro T hT X
  rcases hr T hT X with ⟨v, st₀, t, T', L, h0, X', hL, e1, e2, ⟨⟨r, u, hv, hp, hb⟩, hF⟩, st⟩ | ⟨q, st₀, t, T', L, E, ce, h0, X', hL, e1, e2, ⟨u, hp, hb, hF⟩, hce, hcv, hcl, st⟩
  · cases hv
    obtain ⟨k1, k2, k3⟩ := vx_keep h0 e1 hS hA hf hL hF
    obtain ⟨t2, a1, b1⟩ := kk r u t T'.heap (locs ++ L) e1.symm (by rw [← e2]; exact X'.warmed.alike) hp hb k1 k2 k3 T' rfl X'
    exact ⟨t2, st t2 a1, b1⟩
  · obtain ⟨k1, k2, k3⟩ := vx_keep h0 e1 hS hAX hf hL hF
    obtain ⟨t2, a1, b1⟩ := kx E ce q u t T'.heap (locs ++ L) e1.symm (by rw [← e2]; exact X'.warmed.alike) hp hb k1 k2 k3 (by rw [e1]; exact hce) hcv hcl T' rfl X'
    exact ⟨t2, st.trans a1, b1⟩
theorem vx_callf {S SX : Type} {post : UInt32 → S → Prop} {px : SX → Prop} {B : S → State → Prop} {BX : String → SX → State → Prop} {AX : Nat → Prop} (hr : vx_Run p l e R s m args below meth c H locs cells slots mc ms (F0 m pc ls st0) rest (va_Qf post B A1 a) (vx_X px BX AX) free) (hS : va_S A0 H0 H locs) (hA : ∀ q, q < H.size → A1 q → A0 q) (hf : ∀ q, free q → A0 q) (hAX : ∀ q, q < H.size → AX q → A0 q)
    (kx : ∀ (E : String) (ce : Cell) (q9 : Addr) (u : SX) (t : State) (H1 : Heap) (locs1 : List Loc), t.heap = H1 → s.vm.Alike t.vm → px u → BX E u t → H.size ≤ H1.size → (∀ q : Nat, q < H.size → ¬ AX q → H1[q]? = H[q]?) → va_S A0 H0 H1 locs1 → H1[q9]? = some ce → ce.vm = .none → s.vm.findClass E = some ce.cls → vx_W p l e R s m args below meth c H1 locs1 (cells + mc) (slots + ms) Q (F0 m pc ls rest) q9)
    (kk : ∀ (r : UInt32) (u : S) (t : State) (H1 : Heap) (locs1 : List Loc), t.heap = H1 → s.vm.Alike t.vm → post r u → B u t → H.size ≤ H1.size → (∀ q : Nat, q < H.size → ¬ A1 q → H1[q]? = H[q]?) → va_S A0 H0 H1 locs1 → W p l e R s m args below meth c H1 locs1 (cells + mc) (slots + ms) Q (F0 m (pc + 3) ls (.float r :: rest))) : W p l e R s m args below meth c H locs cells slots Q (F0 m pc ls st0) := by
  intro T hT X
  rcases hr T hT X with ⟨v, st₀, t, T', L, h0, X', hL, e1, e2, ⟨⟨r, u, hv, hp, hb⟩, hF⟩, st⟩ | ⟨q, st₀, t, T', L, E, ce, h0, X', hL, e1, e2, ⟨u, hp, hb, hF⟩, hce, hcv, hcl, st⟩
  · cases hv
    obtain ⟨k1, k2, k3⟩ := vx_keep h0 e1 hS hA hf hL hF
    obtain ⟨t2, a1, b1⟩ := kk r u t T'.heap (locs ++ L) e1.symm (by rw [← e2]; exact X'.warmed.alike) hp hb k1 k2 k3 T' rfl X'
    exact ⟨t2, st t2 a1, b1⟩
  · obtain ⟨k1, k2, k3⟩ := vx_keep h0 e1 hS hAX hf hL hF
    obtain ⟨t2, a1, b1⟩ := kx E ce q u t T'.heap (locs ++ L) e1.symm (by rw [← e2]; exact X'.warmed.alike) hp hb k1 k2 k3 (by rw [e1]; exact hce) hcv hcl T' rfl X'
    exact ⟨t2, st.trans a1, b1⟩
theorem vx_calld {S SX : Type} {post : UInt64 → S → Prop} {px : SX → Prop} {B : S → State → Prop} {BX : String → SX → State → Prop} {AX : Nat → Prop} (hr : vx_Run p l e R s m args below meth c H locs cells slots mc ms (F0 m pc ls st0) rest (va_Qd post B A1 a) (vx_X px BX AX) free) (hS : va_S A0 H0 H locs) (hA : ∀ q, q < H.size → A1 q → A0 q) (hf : ∀ q, free q → A0 q) (hAX : ∀ q, q < H.size → AX q → A0 q)
    (kx : ∀ (E : String) (ce : Cell) (q9 : Addr) (u : SX) (t : State) (H1 : Heap) (locs1 : List Loc), t.heap = H1 → s.vm.Alike t.vm → px u → BX E u t → H.size ≤ H1.size → (∀ q : Nat, q < H.size → ¬ AX q → H1[q]? = H[q]?) → va_S A0 H0 H1 locs1 → H1[q9]? = some ce → ce.vm = .none → s.vm.findClass E = some ce.cls → vx_W p l e R s m args below meth c H1 locs1 (cells + mc) (slots + ms) Q (F0 m pc ls rest) q9)
    (kk : ∀ (r : UInt64) (u : S) (t : State) (H1 : Heap) (locs1 : List Loc), t.heap = H1 → s.vm.Alike t.vm → post r u → B u t → H.size ≤ H1.size → (∀ q : Nat, q < H.size → ¬ A1 q → H1[q]? = H[q]?) → va_S A0 H0 H1 locs1 → W p l e R s m args below meth c H1 locs1 (cells + mc) (slots + ms) Q (F0 m (pc + 3) ls (.double r :: rest))) : W p l e R s m args below meth c H locs cells slots Q (F0 m pc ls st0) := by
  intro T hT X
  rcases hr T hT X with ⟨v, st₀, t, T', L, h0, X', hL, e1, e2, ⟨⟨r, u, hv, hp, hb⟩, hF⟩, st⟩ | ⟨q, st₀, t, T', L, E, ce, h0, X', hL, e1, e2, ⟨u, hp, hb, hF⟩, hce, hcv, hcl, st⟩
  · cases hv
    obtain ⟨k1, k2, k3⟩ := vx_keep h0 e1 hS hA hf hL hF
    obtain ⟨t2, a1, b1⟩ := kk r u t T'.heap (locs ++ L) e1.symm (by rw [← e2]; exact X'.warmed.alike) hp hb k1 k2 k3 T' rfl X'
    exact ⟨t2, st t2 a1, b1⟩
  · obtain ⟨k1, k2, k3⟩ := vx_keep h0 e1 hS hAX hf hL hF
    obtain ⟨t2, a1, b1⟩ := kx E ce q u t T'.heap (locs ++ L) e1.symm (by rw [← e2]; exact X'.warmed.alike) hp hb k1 k2 k3 (by rw [e1]; exact hce) hcv hcl T' rfl X'
    exact ⟨t2, st.trans a1, b1⟩
theorem vx_callv {S SX : Type} {post : S → Prop} {px : SX → Prop} {B : S → State → Prop} {BX : String → SX → State → Prop} {AX : Nat → Prop} (hr : vx_Run p l e R s m args below meth c H locs cells slots mc ms (F0 m pc ls st0) rest (va_Qv post B A1 a) (vx_X px BX AX) free) (hS : va_S A0 H0 H locs) (hA : ∀ q, q < H.size → A1 q → A0 q) (hf : ∀ q, free q → A0 q) (hAX : ∀ q, q < H.size → AX q → A0 q)
    (kx : ∀ (E : String) (ce : Cell) (q9 : Addr) (u : SX) (t : State) (H1 : Heap) (locs1 : List Loc), t.heap = H1 → s.vm.Alike t.vm → px u → BX E u t → H.size ≤ H1.size → (∀ q : Nat, q < H.size → ¬ AX q → H1[q]? = H[q]?) → va_S A0 H0 H1 locs1 → H1[q9]? = some ce → ce.vm = .none → s.vm.findClass E = some ce.cls → vx_W p l e R s m args below meth c H1 locs1 (cells + mc) (slots + ms) Q (F0 m pc ls rest) q9)
    (kk : ∀ (u : S) (t : State) (H1 : Heap) (locs1 : List Loc), t.heap = H1 → s.vm.Alike t.vm → post u → B u t → H.size ≤ H1.size → (∀ q : Nat, q < H.size → ¬ A1 q → H1[q]? = H[q]?) → va_S A0 H0 H1 locs1 → W p l e R s m args below meth c H1 locs1 (cells + mc) (slots + ms) Q (F0 m (pc + 3) ls (rest))) : W p l e R s m args below meth c H locs cells slots Q (F0 m pc ls st0) := by
  intro T hT X
  rcases hr T hT X with ⟨v, st₀, t, T', L, h0, X', hL, e1, e2, ⟨⟨u, hv, hp, hb⟩, hF⟩, st⟩ | ⟨q, st₀, t, T', L, E, ce, h0, X', hL, e1, e2, ⟨u, hp, hb, hF⟩, hce, hcv, hcl, st⟩
  · cases hv
    obtain ⟨k1, k2, k3⟩ := vx_keep h0 e1 hS hA hf hL hF
    obtain ⟨t2, a1, b1⟩ := kk u t T'.heap (locs ++ L) e1.symm (by rw [← e2]; exact X'.warmed.alike) hp hb k1 k2 k3 T' rfl X'
    exact ⟨t2, st t2 a1, b1⟩
  · obtain ⟨k1, k2, k3⟩ := vx_keep h0 e1 hS hAX hf hL hF
    obtain ⟨t2, a1, b1⟩ := kx E ce q u t T'.heap (locs ++ L) e1.symm (by rw [← e2]; exact X'.warmed.alike) hp hb k1 k2 k3 (by rw [e1]; exact hce) hcv hcl T' rfl X'
    exact ⟨t2, st.trans a1, b1⟩
/-- caught by the row x of this method's table; the rows ahead don't take it -/
theorem vx_catch {own name : String} {E : String} {ce : Cell} {q : Addr} (hown : s.vm.findClass own = some m.cls) (pre : List ExceptionTableEntry) (x : ExceptionTableEntry) (suf : List ExceptionTableEntry) (hsplit : c.exceptionTable.toList = pre ++ x :: suf)
    (hpass : ∀ z ∈ pre, covers z pc = false ∨ (z.catchType ≠ 0 ∧ ∃ nm : String, (Cond.classLink own z.catchType nm).before args s = true ∧ va_Nc E nm s)) (hx : covers x pc = true) (h0 : x.catchType ≠ 0)
    (hlink : (Cond.classLink own x.catchType name).before args s = true) (hcast : (Cond.castable E name).before args s = true) (hcell : H[q]? = some ce) (hv : ce.vm = .none) (hcl : s.vm.findClass E = some ce.cls)
    (kk : W p l e R s m args below meth c H locs cells slots Q (F0 m x.handlerPc ls [.ref q])) : vx_W p l e R s m args below meth c H locs cells slots Q (F0 m pc ls rest) q := by
  intro T hT X
  have hpl : e.platform.magicAccessors = ({} : Platform).magicAccessors := by rw [X.admits.platform]
  obtain ⟨c3, c4, hc3, hc4, hasg⟩ := Cond.castable_spec hcast
  cases Option.some.inj (hc3.symm.trans hcl)
  obtain ⟨c5, hc5, hcl5⟩ := Cond.classLink_spec hown hlink e.platform hpl
  cases Option.some.inj (hc4.symm.trans hc5)
  obtain ⟨vm', X', st⟩ := X.thenCaughtThrough q (g := F0 m pc ls rest) rfl (Steps.refl _) (by rw [hT]; exact hcell) (by rw [hv]; rfl) (by obtain ⟨k9, h9, -⟩ := Vm.findClass_spec hcl; exact ⟨k9, h9⟩) pre x suf hsplit
    (fun z hz => by
      rcases hpass z hz with h | ⟨hz0, nm, hl1, hn1⟩
      · exact Or.inl h
      · obtain ⟨c6, hc6, hcl6⟩ := Cond.classLink_spec hown hl1 e.platform hpl
        obtain ⟨a8, b8, h1, h2, h3⟩ := hn1
        cases Option.some.inj (h1.symm.trans hcl)
        cases Option.some.inj (h2.symm.trans hc6)
        exact Or.inr ⟨hz0, _, hcl6, h3⟩) hx (Or.inr ⟨h0, c4, hcl5, hasg⟩)
  obtain ⟨t, a1, b1⟩ := kk (T.setVm vm') hT X'
  exact ⟨t, st.trans a1, b1⟩
end Rows
section Ends
variable {p : Program} {l : Launch} {e : Env} {R : Room} {s : State} {m : MethodId} {args : Array Value} {below : List Frame} {meth : Method} {c : Code} {H : Heap} {locs : List Loc} {cells slots : Nat} {Q : State → Prop}
variable {mc ms : Nat} {free : Addr → Prop} {A0 A1 : Nat → Prop} {H0 : Heap} {a : Array Value} {ls : Array Slot} {st0 rest : List Value}
variable {Qc : Array Value → State → Outcome → State → Prop} {XC : String → State → State → Prop}
/-- what a body that may throw owes at its end -/
def vx_MQ (below : List Frame) (Qc : Array Value → State → Outcome → State → Prop) (XC : String → State → State → Prop) (a : Array Value) (s : State) (mc ms : Nat) (free : Addr → Prop) : State → Prop := fun t =>
  ∃ o, t.status = .running ∧ Ended t below o ∧ vx_Q Qc XC mc ms free a s o t
theorem vx_ret {g : JFrame} {mc ms : Nat} (k : W p l e R s m args below meth c H locs cells slots (MQ below Qc args s mc ms free) g) : W p l e R s m args below meth c H locs cells slots (vx_MQ below Qc XC args s mc ms free) g := by
  intro T hT X
  obtain ⟨t, a1, o, b1, b2, b3, b4⟩ := k T hT X
  exact ⟨t, a1, o, b1, b2, Or.inl ⟨b3, b4⟩⟩
/-- not caught here: it goes on to the caller -/
theorem vx_widen {g : JFrame} {q : Addr} {k n : Nat} (h1 : cells ≤ k) (h2 : slots ≤ n) (kk : vx_W p l e R s m args below meth c H locs k n Q g q) : vx_W p l e R s m args below meth c H locs cells slots Q g q := fun T hT X => kk T hT (stand_widen X h1 h2)
theorem vx_out {pc : Nat} {E : String} {ce : Cell} {q : Addr} {mc ms : Nat} (hout : ∀ x ∈ c.exceptionTable.toList, covers x pc = false) (hlocks : meth.locks = false) (hcell : H[q]? = some ce) (hv : ce.vm = .none) (hcl : s.vm.findClass E = some ce.cls)
    (hx : ∀ t : State, t.heap = H → s.vm.Alike t.vm → XC E s t) (hf : ∀ z ∈ locs, free z.base) (hc : cells ≤ mc) (hs : slots ≤ ms) :
    vx_W p l e R s m args below meth c H locs cells slots (vx_MQ below Qc XC args s mc ms free) (F0 m pc ls rest) q := by
  intro T hT X
  obtain ⟨st1, hrun, hend, hW, hsm⟩ := X.leaveThrown q (g := F0 m pc ls rest) rfl rfl rfl hout hlocks
  have hcell9 : (T.setFrames (.throwing q :: below)).heap[q]? = some ce := by
    show T.heap[q]? = some ce
    rw [hT]; exact hcell
  exact ⟨_, st1, .threw q, hrun, hend, Or.inr ⟨q, rfl, E, ce, locs, hx _ hT hW.alike, hcell9, hv, hcl, hW, hsm.mono hc hs, hf⟩⟩
theorem vx_frame {U : State} {k n : Nat} (h : s.sameButNew ({ U with vm := s.vm } : State) locs k n) : s.heap.size ≤ U.heap.size ∧ ∀ q : Nat, q < s.heap.size → (∀ z ∈ locs, z.base ≠ q) → U.heap[q]? = s.heap[q]? := by
  obtain ⟨-, h2, -, -, -, h6⟩ := h
  refine ⟨h2, fun q hq hz => ?_⟩
  obtain ⟨c9, e1, e2, e3, e4⟩ := h6 q _ (Array.getElem?_eq_getElem hq)
  have hs : c9.slots = (s.heap[q]).slots := Array.ext_getElem? fun i => e4 i fun hm => hz _ hm rfl
  have h9 : c9 = s.heap[q] := by
    rw [hs] at e2
    exact e2
  have e5 : U.heap[q]? = some c9 := e1
  rw [e5, h9, Array.getElem?_eq_getElem hq]
/-- the words of a throw but the four that speak of the heap -/
def vx_no (w : Cond) : Bool := decide (w ≠ .isRef (.static Bundle.tN "UNASSIGNED_STACK" Bundle.steD)) && decide (w ≠ .isRef (.static Bundle.tN "SUPPRESSED_SENTINEL" Bundle.listD)) && decide (w ≠ .laysStatic Bundle.tN "UNASSIGNED_STACK" Bundle.steD) && decide (w ≠ .laysStatic Bundle.tN "SUPPRESSED_SENTINEL" Bundle.listD)
def vx_at0 (own : String) (ic : Nat) (X : String) (names : List String) : List Cond := (Bundle.ownAtoms0 own ic X names).filter vx_no
def vx_atS (own : String) (ic : Nat) (X : String) (names : List String) : List Cond := (Bundle.ownAtoms own ic X names).filter vx_no
/-- a word that the tables alone decide, or a good one -/
def vx_ot (w : Cond) : Bool := w.onTables || goodWord w
theorem vx_ot_at {args a' : Array Value} {s U : State} {w : Cond} (hW : s.WarmedH U.vm) (hvm : s.vm = U.vm) (hg : vx_ot w = true) (h : w.before args s = true) : w.before a' U = true := by
  simp only [vx_ot, Bool.or_eq_true] at hg
  rcases hg with hg | hg
  · exact va_tabs hg hvm h
  · exact word_at hW (good_of_word hg) h
/-- a list's words: the good ones out of the method's own list, the others by premises of their own -/
theorem vx_hat {args : Array Value} {s : State} {L B : List Cond} (h1 : ∀ w ∈ L.filter goodWord, w.before args s = true) (h2 : ∀ w ∈ L.filter (fun w => !goodWord w), w ∈ B) (h3 : ∀ w ∈ B, w.before args s = true) : ∀ w ∈ L, w.before args s = true := by
  intro w hw
  by_cases g : goodWord w = true
  · exact h1 w (List.mem_filter.mpr ⟨hw, g⟩)
  · refine h3 w (h2 w (List.mem_filter.mpr ⟨hw, ?_⟩))
    show (!goodWord w) = true
    cases hgw : goodWord w
    · rfl
    · exact absurd hgw g
theorem vx_c {args : Array Value} {s : State} {w : Cond} {B : List Cond} (h : w.before args s = true) (t : ∀ w ∈ B, w.before args s = true) : ∀ w' ∈ w :: B, w'.before args s = true := fun w' h' => (List.mem_cons.mp h').elim (fun e => by rw [e]; exact h) (t w')
theorem vx_n {args : Array Value} {s : State} : ∀ w ∈ ([] : List Cond), w.before args s = true := fun _ h => nomatch h
theorem vx_own {args : Array Value} {s : State} {L : List Cond} (h1 : ∀ w ∈ L.filter vx_no, w.before args s = true)
    (hU : (Cond.isRef (.static Bundle.tN "UNASSIGNED_STACK" Bundle.steD)).before args s = true) (hN : (Cond.isRef (.static Bundle.tN "SUPPRESSED_SENTINEL" Bundle.listD)).before args s = true)
    (lU : (Cond.laysStatic Bundle.tN "UNASSIGNED_STACK" Bundle.steD).before args s = true) (lN : (Cond.laysStatic Bundle.tN "SUPPRESSED_SENTINEL" Bundle.listD).before args s = true) : ∀ w ∈ L, w.before args s = true := by
  intro w hw
  by_cases e1 : w = .isRef (.static Bundle.tN "UNASSIGNED_STACK" Bundle.steD)
  · rw [e1]; exact hU
  · by_cases e2 : w = .isRef (.static Bundle.tN "SUPPRESSED_SENTINEL" Bundle.listD)
    · rw [e2]; exact hN
    · by_cases e3 : w = .laysStatic Bundle.tN "UNASSIGNED_STACK" Bundle.steD
      · rw [e3]; exact lU
      · by_cases e4 : w = .laysStatic Bundle.tN "SUPPRESSED_SENTINEL" Bundle.listD
        · rw [e4]; exact lN
        · exact h1 w (List.mem_filter.mpr ⟨hw, by unfold vx_no; rw [decide_eq_true e1, decide_eq_true e2, decide_eq_true e3, decide_eq_true e4]; rfl⟩)
/-- where a static field lies, its class's statics cell in H -/
def vx_L (C n d : String) (A : Nat → Prop) (U : State) (H : Heap) : Prop := ∃ (c : ClassId) (k : Class) (i : Nat) (f : Field) (a : Nat) (cell : Cell), U.vm.findClass C = some c ∧ U.fieldFound? C n d = some (c, k, i, f) ∧ f.isStatic = true ∧ k.statics = some a ∧ H[a]? = some cell ∧ cell.vm.isStatics = true ∧ cell.cls = c ∧ f.slot < cell.slots.size ∧ k.staticTypes[f.slot]? = some f.type ∧ ¬ A a
theorem vx_L.moved {C n d : String} {A : Nat → Prop} {u U : State} {H : Heap} (hvm : u.vm.Alike U.vm) (h : vx_L C n d A u H) : vx_L C n d A U H := by
  obtain ⟨c, k, i, f, a, cell, h1, h2, h3, h4, h5, h6, h7, h8, h9, h10⟩ := h
  obtain ⟨k', hi', he⟩ := State.fieldFound?_setVm hvm h2
  exact ⟨c, k', i, f, a, cell, by rw [hvm.findClass]; exact h1, hi', h3, by rw [he]; exact h4, h5, h6, h7, h8, by rw [he]; exact h9, h10⟩
theorem vx_L.kept {C n d : String} {A : Nat → Prop} {U : State} {H H1 : Heap} (h : vx_L C n d A U H) (hq : ∀ a : Nat, a < H.size → ¬ A a → H1[a]? = H[a]?) : vx_L C n d A U H1 := by
  obtain ⟨c, k, i, f, a, cell, h1, h2, h3, h4, h5, h6, h7, h8, h9, h10⟩ := h
  exact ⟨c, k, i, f, a, cell, h1, h2, h3, h4, by rw [hq a (Array.getElem?_eq_some_iff.mp h5).1 h10]; exact h5, h6, h7, h8, h9, h10⟩
theorem vx_L.narrow {C n d : String} {A B : Nat → Prop} {U : State} {H : Heap} (h : vx_L C n d A U H) (hAB : ∀ q, B q → A q) : vx_L C n d B U H := by
  obtain ⟨c, k, i, f, a, cell, h1, h2, h3, h4, h5, h6, h7, h8, h9, h10⟩ := h
  exact ⟨c, k, i, f, a, cell, h1, h2, h3, h4, h5, h6, h7, h8, h9, fun z => h10 (hAB _ z)⟩
theorem vx_L.word {C n d : String} {A : Nat → Prop} {s : State} {args : Array Value} (h : vx_L C n d A s s.heap) : (Cond.laysStatic C n d).before args s = true := by
  obtain ⟨c, k, i, f, a, cell, h1, h2, h3, h4, h5, h6, h7, h8, h9, -⟩ := h
  show (Cond.laysStatic C n d).holds args s none s [] = true
  exact Cond.laysStatic_of h1 h2 h3 h4 h5 h6 h7 h8 h9
/-- .. and what it holds: null or some reference -/
def vx_Zq (C n d : String) (A : Nat → Prop) (U : State) (H : Heap) : Prop := va_Zq C n d A U H ∧ vx_L C n d A U H
theorem vx_Zq.moved {C n d : String} {A : Nat → Prop} {u U : State} {H : Heap} (hvm : u.vm.Alike U.vm) (h : vx_Zq C n d A u H) : vx_Zq C n d A U H := ⟨va_Zq.moved hvm h.1, vx_L.moved hvm h.2⟩
theorem vx_Zq.kept {C n d : String} {A : Nat → Prop} {U : State} {H H1 : Heap} (h : vx_Zq C n d A U H) (hq : ∀ a : Nat, a < H.size → ¬ A a → H1[a]? = H[a]?) : vx_Zq C n d A U H1 := ⟨va_Zq.kept h.1 hq, vx_L.kept h.2 hq⟩
theorem vx_Zq.narrow {C n d : String} {A B : Nat → Prop} {U : State} {H : Heap} (h : vx_Zq C n d A U H) (hAB : ∀ q, B q → A q) : vx_Zq C n d B U H := ⟨va_Zq.narrow h.1 hAB, vx_L.narrow h.2 hAB⟩
theorem vx_Zqof {args : Array Value} {s : State} {C n d : String} {A : Nat → Prop} (hl : (Cond.laysStatic C n d).before args s = true) (hini : (Cond.initialized C).before args s = true) (h : (Cond.isRef (.static C n d)).before args s = true) (hA : ∀ a : Nat, a < s.heap.size → ¬ A a) : vx_Zq C n d A s s.heap := by
  refine ⟨va_Zqof hl hini h hA, ?_⟩
  obtain ⟨c, k, i, f, a, cell, h1, h2, h3, h4, h5, h6, h7, h8, h9⟩ := Cond.laysStatic_spec hl
  exact ⟨c, k, i, f, a, cell, h1, h2, h3, h4, h5, h6, h7, h8, h9, hA a (Array.getElem?_eq_some_iff.mp h5).1⟩
theorem vx_isRef {C n d : String} {v : Value} {A : Nat → Prop} {s : State} {args : Array Value} (h : va_Z C n d v A s s.heap) (hv : v.isRef = true) : (Cond.isRef (.static C n d)).before args s = true := by
  obtain ⟨cf, kf, fi, f, a, cell, h1, h2, h3, h4, h5, h6, h7, -⟩ := h
  have he : (Term.static C n d).eval args s none [] s = some v := by
    simp [Term.eval, State.fieldNamed?, h1, h2, h4, h5, h6, h7]
  simp only [Cond.before, Cond.holds, Cond.value, he]
  cases v <;> simp_all [Value.isRef]
theorem vx_isRefq {C n d : String} {A : Nat → Prop} {s : State} {args : Array Value} (h : va_Zq C n d A s s.heap) : (Cond.isRef (.static C n d)).before args s = true := by
  rcases h with h | ⟨t, h⟩
  · exact vx_isRef h rfl
  · exact vx_isRef h rfl
/-- the same frame, seen from here: as if the method were called anew in this heap -/
theorem vx_rebase {T : State} (X : Stand p l e R s m args below meth c T locs cells slots) {R' : Room} (hf : R'.frames ≤ R.frames) (hl : R'.locals ≤ R.locals) (hc : cells + R'.cells ≤ R.cells) (hs : slots + R'.slots ≤ R.slots) :
    Stand p l e R' ((T.setVm s.vm).setFrames (.invoking m args :: below)) m args below meth c T [] 0 0 := by
  have htop : (T.setVm s.vm).topJava?.isSome := X.here.top
  have hF : ((T.setVm s.vm).setFrames (.invoking m args :: below)).frames = .invoking m args :: below := State.frames_setFrames _ (State.cur_lt_of_top htop)
  obtain ⟨g₀, hg0⟩ := Option.isSome_iff_exists.mp htop
  obtain ⟨r, hr⟩ := State.topJava?_eq_some.mp hg0
  have hl9 : e.platform.stackLimits (T.setVm s.vm).me = e.platform.stackLimits s.me := X.limits
  have hb9 : (T.setVm s.vm).me.stackBytes = s.me.stackBytes := X.bytes
  refine ⟨X.admits, X.cas, X.clock, hF, ?_, X.hears, X.method, X.code, X.here, X.tail, X.warmed, ?_, ?_, ?_⟩
  · have h := X.room
    have hU : ((T.setVm s.vm).setFrames (.invoking m args :: below)).localsInUse = s.localsInUse := by
      rw [State.localsInUse_invoking hF (meth := meth) (c := c) X.method X.code, State.localsInUse_invoking X.frames X.method X.code]
    simp only [State.hasRoom, Bool.and_eq_true, decide_eq_true_eq] at h ⊢
    obtain ⟨⟨⟨⟨h1, h2, h3, h4, h5, h6⟩, h7⟩, h8⟩, h9⟩ := h
    rw [X.frames, List.length_cons] at h2 h3
    have q1 := X.heapSize
    have q2 := X.used
    simp only [hF, hU, List.length_cons, State.stackLimits_setFrames, State.stackBytes_setFrames, hl9, hb9]
    refine ⟨⟨⟨⟨by omega, by omega, by omega, by omega, by omega, h6⟩, ?_⟩, ?_⟩, X.book⟩
    · show T.heap.size + R'.cells ≤ e.platform.maxCells
      omega
    · show T.slotsUsed + R'.slots ≤ e.platform.maxSlots
      omega
  · rw [State.stackLimits_setFrames]; rfl
  · rw [State.stackBytes_setFrames]; rfl
  · refine ⟨?_, Nat.le_refl _, Nat.le_refl _, ?_, ?_, fun a c9 h9 => ⟨c9, h9, rfl, rfl, fun _ _ => rfl⟩⟩
    · obtain ⟨t, ht, -⟩ := State.frames_cons hr
      show T.setVm s.vm = { ((T.setVm s.vm).setFrames (.invoking m args :: below)).setFrames (T.setVm s.vm).frames with heap := T.heap, slotsUsed := T.slotsUsed }
      rw [State.setFrames_setFrames, State.setFrames_self ht]
      rfl
    · show T.slotsUsed = T.slotsUsed + ((T.heap.toList.drop T.heap.size).map (·.slots.size)).sum
      rw [List.drop_eq_nil_of_le (Nat.le_of_eq Array.length_toList)]
      rfl
    · show ((T.heap.toList.drop T.heap.size).map (·.slots.size)).sum ≤ 0
      rw [List.drop_eq_nil_of_le (Nat.le_of_eq Array.length_toList)]
      exact Nat.le_refl _
/-- 'throw new E()': new; dup; invokespecial; athrow -/
theorem vx_throw0 {cc : ByteArray} {pc : Nat} (hexec : p.tables.exec = Jvm.exec) (hb : c.code = cc) (hl : l.stackTraces = false) {own cls : String} {names : List String} {ik ic mc ms : Nat} {A : Nat → Prop}
    (hown : s.vm.findClass own = some m.cls) (hcls : Bundle.fit cls = true) (hnames : ∀ n ∈ names, Bundle.fit n = true)
    (hk : (Cond.classLink own ik cls).before args s = true) (hini : (Cond.initialized cls).before args s = true) (hat : ∀ w ∈ vx_at0 own ic cls names, w.before args s = true)
    (hgood : ∀ w ∈ Cond.classLink own ik cls :: Cond.initialized cls :: vx_at0 own ic cls names, vx_ot w = true)
    (hU : vx_Zq Bundle.tN "UNASSIGNED_STACK" Bundle.steD A s s.heap) (hN : vx_Zq Bundle.tN "SUPPRESSED_SENTINEL" Bundle.listD A s s.heap) (hS : va_S A s.heap H locs) (hsize : ls.size = c.maxLocals)
    (d0 : decode cc pc = .ok (.new ik, 3)) (d3 : decode cc (pc + 3) = .ok (.dup, 1)) (d4 : decode cc (pc + 4) = .ok (.invokespecial ic, 3)) (d7 : decode cc (pc + 7) = .ok (.athrow, 1))
    (hout : ∀ x ∈ c.exceptionTable.toList, covers x (pc + 7) = false)
    (hRframes : names.length + 3 < R.frames) (hRlocals : (rest.map fun v => v.category).sum + (13 * (names.length + 1) + 42) ≤ R.locals) (hRcells : cells + 1 ≤ R.cells) (hRslots : slots + 6 ≤ R.slots) (hlocks : meth.locks = false)
    (hx : ∀ t : State, s.vm.Alike t.vm → H.size ≤ t.heap.size → (∀ q : Nat, q < H.size → t.heap[q]? = H[q]?) → XC cls s t)
    (hf : ∀ z ∈ locs, free z.base) (hc : cells + 1 ≤ mc) (hs : slots + 6 ≤ ms) :
    W p l e R s m args below meth c H locs cells slots (vx_MQ below Qc XC args s mc ms free) (F0 m pc ls rest) := by
  intro T hT X
  have htr : e.platform.stackTraces = false := (show e.platform.stackTraces = l.stackTraces by rw [X.admits.platform]).trans hl
  have Y := vx_rebase X (R' := { frames := R.frames, locals := R.locals, cells := 1, slots := 6 }) (Nat.le_refl _) (Nat.le_refl _) hRcells hRslots
  obtain ⟨s', hA⟩ : ∃ z, z = (T.setVm s.vm).setFrames (.invoking m args :: below) := ⟨_, rfl⟩
  rw [← hA] at Y
  have hvm : s'.vm = s.vm := by rw [hA]; rfl
  have hhp : s'.heap = H := by rw [hA]; exact hT
  have hW0 : s.WarmedH s'.vm := by rw [hvm]; exact State.WarmedH.refl s
  have hat' : ∀ w ∈ vx_at0 own ic cls names, w.before args s' = true := fun w hw => vx_ot_at hW0 hvm.symm (hgood w (List.mem_cons_of_mem _ (List.mem_cons_of_mem _ hw))) (hat w hw)
  have hk' : (Cond.classLink own ik cls).before args s' = true := vx_ot_at hW0 hvm.symm (hgood _ List.mem_cons_self) hk
  have hini' : (Cond.initialized cls).before args s' = true := vx_ot_at hW0 hvm.symm (hgood _ (List.mem_cons_of_mem _ List.mem_cons_self)) hini
  have hU' : vx_Zq Bundle.tN "UNASSIGNED_STACK" Bundle.steD A s' s'.heap := by rw [hhp]; exact vx_Zq.moved hW0.alike (hU.kept hS.2.1)
  have hN' : vx_Zq Bundle.tN "SUPPRESSED_SENTINEL" Bundle.listD A s' s'.heap := by rw [hhp]; exact vx_Zq.moved hW0.alike (hN.kept hS.2.1)
  have h : ∀ w ∈ Bundle.ownAtoms0 own ic cls names, w.before args s' = true := vx_own hat' (vx_isRefq hU'.1) (vx_isRefq hN'.1) hU'.2.word hN'.2.word
  have hown' : s'.vm.findClass own = some m.cls := by rw [hvm]; exact hown
  have hins : (Cond.instantiable cls 6).before args s' = true := h _ (by simp [Bundle.ownAtoms0])
  obtain ⟨vm₁, cX, kX, hfX, hkX, -, -, X₁, st1⟩ := Y.newCold hexec (own := own) (C := cls) (index := ik) (n := 6) hown' hk' hins hini'
    (g := F0 m pc ls rest) rfl (by rw [hb]; exact d0) (Nat.le_refl _) (Nat.le_refl _)
  generalize hT1 : (T.setVm vm₁).pushCell { cls := cX, slots := kX.instanceTypes.map defaultValue, vm := .none } = T1 at X₁ st1
  have hcat : (Value.ref T.heap.size).category = 1 := rfl
  have hcellA : T1.heap[T.heap.size]? = some (freshCell cX kX) := by rw [← hT1]; exact State.heap_pushCell_size _ _
  have d3' : decode c.code (pc + 3) = .ok (.dup, 1) := by rw [hb]; exact d3
  obtain ⟨U, hsteps, hrun, hend, hW, hsame, ce, hce, hO⟩ := X₁.ctorThrow0 hexec htr (own := own) (cls := cls) (names := names) (ic := ic) hown' hcls hnames h (fun x hx => nomatch hx) hfX hkX hcellA (by rw [hhp, hT]; exact Nat.le_refl _)
    (g := { method := m, pc := pc + 4, locals := ls, stack := .ref T.heap.size :: .ref T.heap.size :: rest, locked := none }) rfl hsize rfl rfl (rest := rest) rfl
    (by rw [hb]; exact d4) (by rw [hb]; exact d7) hout hRframes (by simp only [List.map_cons, List.sum_cons, hcat]; omega) hlocks
  obtain ⟨f1, f2⟩ := vx_frame hsame
  rw [hhp] at f1 f2
  have hWs : s.WarmedH U.vm := State.WarmedH.trans hW0 hW
  have hcl : s.vm.findClass cls = some ce.cls := by
    have h9 := hO.cls
    rw [hvm] at h9
    exact h9
  have hall : s.sameButNew ({ U with vm := s.vm } : State) locs mc ms := by
    subst hA
    obtain ⟨e1, e2⟩ := hsame
    rw [State.setFrames_setFrames] at e1
    have h2 : (T.setVm s.vm).sameButNew ({ U with vm := s.vm } : State) [] (0 + 1) (0 + 6) := ⟨e1, e2⟩
    have h3 := X.same.trans h2
    rw [List.append_nil] at h3
    exact h3.mono hc hs
  refine ⟨U, ?_, .threw T.heap.size, hrun, hend, Or.inr ⟨T.heap.size, rfl, cls, ce, locs, hx U hWs.alike f1 (fun q hq => f2 q hq (fun z hz => nomatch hz)), hce, hO.vm, hcl, hWs, hall, hf⟩⟩
  refine st1 _ ?_
  show Steps p.tables e below (T1.setTop { method := m, pc := pc + 3, locals := ls, stack := .ref T.heap.size :: rest, locked := none }) _
  jvm_step X₁.here [X₁.here.top, hexec, d3', Value.category]
  exact hsteps
/-- 'throw new E("text")': new; dup; ldc; invokespecial; athrow -/
theorem vx_throwS {cc : ByteArray} {pc : Nat} (hexec : p.tables.exec = Jvm.exec) (hb : c.code = cc) (hl : l.stackTraces = false) {own cls text : String} {names : List String} {ik is ic mc ms sa : Nat} {A : Nat → Prop}
    (hown : s.vm.findClass own = some m.cls) (hcls : Bundle.fit cls = true) (hnames : ∀ n ∈ names, Bundle.fit n = true)
    (hk : (Cond.classLink own ik cls).before args s = true) (hini : (Cond.initialized cls).before args s = true) (hstr : vk_R own is text sa s) (hat : ∀ w ∈ vx_atS own ic cls names, w.before args s = true)
    (hgood : ∀ w ∈ Cond.classLink own ik cls :: Cond.initialized cls :: vx_atS own ic cls names, vx_ot w = true)
    (hU : vx_Zq Bundle.tN "UNASSIGNED_STACK" Bundle.steD A s s.heap) (hN : vx_Zq Bundle.tN "SUPPRESSED_SENTINEL" Bundle.listD A s s.heap) (hS : va_S A s.heap H locs) (hsize : ls.size = c.maxLocals)
    (d0 : decode cc pc = .ok (.new ik, 3)) (d3 : decode cc (pc + 3) = .ok (.dup, 1)) (d4 : decode cc (pc + 4) = .ok (.ldc is, 2)) (d6 : decode cc (pc + 6) = .ok (.invokespecial ic, 3)) (d9 : decode cc (pc + 9) = .ok (.athrow, 1))
    (hout : ∀ x ∈ c.exceptionTable.toList, covers x (pc + 9) = false)
    (hRframes : names.length + 3 < R.frames) (hRlocals : (rest.map fun v => v.category).sum + (13 * (names.length + 1) + 43) ≤ R.locals) (hRcells : cells + 1 ≤ R.cells) (hRslots : slots + 6 ≤ R.slots) (hlocks : meth.locks = false)
    (hx : ∀ t : State, s.vm.Alike t.vm → H.size ≤ t.heap.size → (∀ q : Nat, q < H.size → t.heap[q]? = H[q]?) → XC cls s t)
    (hf : ∀ z ∈ locs, free z.base) (hc : cells + 1 ≤ mc) (hs : slots + 6 ≤ ms) :
    W p l e R s m args below meth c H locs cells slots (vx_MQ below Qc XC args s mc ms free) (F0 m pc ls rest) := by
  intro T hT X
  have htr : e.platform.stackTraces = false := (show e.platform.stackTraces = l.stackTraces by rw [X.admits.platform]).trans hl
  have Y := vx_rebase X (R' := { frames := R.frames, locals := R.locals, cells := 1, slots := 6 }) (Nat.le_refl _) (Nat.le_refl _) hRcells hRslots
  obtain ⟨s', hA⟩ : ∃ z, z = (T.setVm s.vm).setFrames (.invoking m args :: below) := ⟨_, rfl⟩
  rw [← hA] at Y
  have hvm : s'.vm = s.vm := by rw [hA]; rfl
  have hhp : s'.heap = H := by rw [hA]; exact hT
  have hW0 : s.WarmedH s'.vm := by rw [hvm]; exact State.WarmedH.refl s
  have hat' : ∀ w ∈ vx_atS own ic cls names, w.before args s' = true := fun w hw => vx_ot_at hW0 hvm.symm (hgood w (List.mem_cons_of_mem _ (List.mem_cons_of_mem _ hw))) (hat w hw)
  have hk' : (Cond.classLink own ik cls).before args s' = true := vx_ot_at hW0 hvm.symm (hgood _ List.mem_cons_self) hk
  have hini' : (Cond.initialized cls).before args s' = true := vx_ot_at hW0 hvm.symm (hgood _ (List.mem_cons_of_mem _ List.mem_cons_self)) hini
  have hU' : vx_Zq Bundle.tN "UNASSIGNED_STACK" Bundle.steD A s' s'.heap := by rw [hhp]; exact vx_Zq.moved hW0.alike (hU.kept hS.2.1)
  have hN' : vx_Zq Bundle.tN "SUPPRESSED_SENTINEL" Bundle.listD A s' s'.heap := by rw [hhp]; exact vx_Zq.moved hW0.alike (hN.kept hS.2.1)
  have h : ∀ w ∈ Bundle.ownAtoms own ic cls names, w.before args s' = true := vx_own hat' (vx_isRefq hU'.1) (vx_isRefq hN'.1) hU'.2.word hN'.2.word
  have hown' : s'.vm.findClass own = some m.cls := by rw [hvm]; exact hown
  have hins : (Cond.instantiable cls 6).before args s' = true := h _ (by simp [Bundle.ownAtoms])
  obtain ⟨vm₁, cX, kX, hfX, hkX, -, -, X₁, st1⟩ := Y.newCold hexec (own := own) (C := cls) (index := ik) (n := 6) hown' hk' hins hini'
    (g := F0 m pc ls rest) rfl (by rw [hb]; exact d0) (Nat.le_refl _) (Nat.le_refl _)
  generalize hT1 : (T.setVm vm₁).pushCell { cls := cX, slots := kX.instanceTypes.map defaultValue, vm := .none } = T1 at X₁ st1
  have hcat : (Value.ref T.heap.size).category = 1 := rfl
  have hcellA : T1.heap[T.heap.size]? = some (freshCell cX kX) := by rw [← hT1]; exact State.heap_pushCell_size _ _
  have d3' : decode c.code (pc + 3) = .ok (.dup, 1) := by rw [hb]; exact d3
  have d4' : decode c.code (pc + 4) = .ok (.ldc is, 2) := by rw [hb]; exact d4
  have hstr' : vk_R own is text sa s' := vk_R.warm hW0 hstr
  obtain ⟨U, hsteps, hrun, hend, hW, hsame, ce, hce, hO⟩ := X₁.ctorThrowS hexec htr (own := own) (cls := cls) (names := names) (ic := ic) hown' hcls hnames h (fun x hx => nomatch hx) hfX hkX hcellA (by rw [hhp, hT]; exact Nat.le_refl _) (msg := .ref sa) rfl
    (g := { method := m, pc := pc + 6, locals := ls, stack := .ref sa :: .ref T.heap.size :: .ref T.heap.size :: rest, locked := none }) rfl hsize rfl rfl (rest := rest) rfl
    (by rw [hb]; exact d6) (by rw [hb]; exact d9) hout hRframes (by simp only [List.map_cons, List.sum_cons, hcat]; omega) hlocks
  obtain ⟨f1, f2⟩ := vx_frame hsame
  rw [hhp] at f1 f2
  have hWs : s.WarmedH U.vm := State.WarmedH.trans hW0 hW
  have hcl : s.vm.findClass cls = some ce.cls := by
    have h9 := hO.cls
    rw [hvm] at h9
    exact h9
  have hall : s.sameButNew ({ U with vm := s.vm } : State) locs mc ms := by
    subst hA
    obtain ⟨e1, e2⟩ := hsame
    rw [State.setFrames_setFrames] at e1
    have h2 : (T.setVm s.vm).sameButNew ({ U with vm := s.vm } : State) [] (0 + 1) (0 + 6) := ⟨e1, e2⟩
    have h3 := X.same.trans h2
    rw [List.append_nil] at h3
    exact h3.mono hc hs
  refine ⟨U, ?_, .threw T.heap.size, hrun, hend, Or.inr ⟨T.heap.size, rfl, cls, ce, locs, hx U hWs.alike f1 (fun q hq => f2 q hq (fun z hz => nomatch hz)), hce, hO.vm, hcl, hWs, hall, hf⟩⟩
  refine st1 _ ?_
  show Steps p.tables e below (T1.setTop { method := m, pc := pc + 3, locals := ls, stack := .ref T.heap.size :: rest, locked := none }) _
  jvm_step X₁.here [X₁.here.top, hexec, d3', Value.category]
  exact X₁.ldcString hexec (own := own) (text := text) (index := is) (a := sa) hown' hstr'.1 hstr'.2
    (g := { method := m, pc := pc + 4, locals := ls, stack := .ref T.heap.size :: .ref T.heap.size :: rest, locked := none }) rfl d4' _ hsteps
/-- 'throw new E("text")', the text by a wide index -/
theorem vx_throwSW {cc : ByteArray} {pc : Nat} (hexec : p.tables.exec = Jvm.exec) (hb : c.code = cc) (hl : l.stackTraces = false) {own cls text : String} {names : List String} {ik is ic mc ms sa : Nat} {A : Nat → Prop}
    (hown : s.vm.findClass own = some m.cls) (hcls : Bundle.fit cls = true) (hnames : ∀ n ∈ names, Bundle.fit n = true)
    (hk : (Cond.classLink own ik cls).before args s = true) (hini : (Cond.initialized cls).before args s = true) (hstr : vk_R own is text sa s) (hat : ∀ w ∈ vx_atS own ic cls names, w.before args s = true)
    (hgood : ∀ w ∈ Cond.classLink own ik cls :: Cond.initialized cls :: vx_atS own ic cls names, vx_ot w = true)
    (hU : vx_Zq Bundle.tN "UNASSIGNED_STACK" Bundle.steD A s s.heap) (hN : vx_Zq Bundle.tN "SUPPRESSED_SENTINEL" Bundle.listD A s s.heap) (hS : va_S A s.heap H locs) (hsize : ls.size = c.maxLocals)
    (d0 : decode cc pc = .ok (.new ik, 3)) (d3 : decode cc (pc + 3) = .ok (.dup, 1)) (d4 : decode cc (pc + 4) = .ok (.ldc_w is, 3)) (d7 : decode cc (pc + 7) = .ok (.invokespecial ic, 3)) (d10 : decode cc (pc + 10) = .ok (.athrow, 1))
    (hout : ∀ x ∈ c.exceptionTable.toList, covers x (pc + 10) = false)
    (hRframes : names.length + 3 < R.frames) (hRlocals : (rest.map fun v => v.category).sum + (13 * (names.length + 1) + 43) ≤ R.locals) (hRcells : cells + 1 ≤ R.cells) (hRslots : slots + 6 ≤ R.slots) (hlocks : meth.locks = false)
    (hx : ∀ t : State, s.vm.Alike t.vm → H.size ≤ t.heap.size → (∀ q : Nat, q < H.size → t.heap[q]? = H[q]?) → XC cls s t)
    (hf : ∀ z ∈ locs, free z.base) (hc : cells + 1 ≤ mc) (hs : slots + 6 ≤ ms) :
    W p l e R s m args below meth c H locs cells slots (vx_MQ below Qc XC args s mc ms free) (F0 m pc ls rest) := by
  intro T hT X
  have htr : e.platform.stackTraces = false := (show e.platform.stackTraces = l.stackTraces by rw [X.admits.platform]).trans hl
  have Y := vx_rebase X (R' := { frames := R.frames, locals := R.locals, cells := 1, slots := 6 }) (Nat.le_refl _) (Nat.le_refl _) hRcells hRslots
  obtain ⟨s', hA⟩ : ∃ z, z = (T.setVm s.vm).setFrames (.invoking m args :: below) := ⟨_, rfl⟩
  rw [← hA] at Y
  have hvm : s'.vm = s.vm := by rw [hA]; rfl
  have hhp : s'.heap = H := by rw [hA]; exact hT
  have hW0 : s.WarmedH s'.vm := by rw [hvm]; exact State.WarmedH.refl s
  have hat' : ∀ w ∈ vx_atS own ic cls names, w.before args s' = true := fun w hw => vx_ot_at hW0 hvm.symm (hgood w (List.mem_cons_of_mem _ (List.mem_cons_of_mem _ hw))) (hat w hw)
  have hk' : (Cond.classLink own ik cls).before args s' = true := vx_ot_at hW0 hvm.symm (hgood _ List.mem_cons_self) hk
  have hini' : (Cond.initialized cls).before args s' = true := vx_ot_at hW0 hvm.symm (hgood _ (List.mem_cons_of_mem _ List.mem_cons_self)) hini
  have hU' : vx_Zq Bundle.tN "UNASSIGNED_STACK" Bundle.steD A s' s'.heap := by rw [hhp]; exact vx_Zq.moved hW0.alike (hU.kept hS.2.1)
  have hN' : vx_Zq Bundle.tN "SUPPRESSED_SENTINEL" Bundle.listD A s' s'.heap := by rw [hhp]; exact vx_Zq.moved hW0.alike (hN.kept hS.2.1)
  have h : ∀ w ∈ Bundle.ownAtoms own ic cls names, w.before args s' = true := vx_own hat' (vx_isRefq hU'.1) (vx_isRefq hN'.1) hU'.2.word hN'.2.word
  have hown' : s'.vm.findClass own = some m.cls := by rw [hvm]; exact hown
  have hins : (Cond.instantiable cls 6).before args s' = true := h _ (by simp [Bundle.ownAtoms])
  obtain ⟨vm₁, cX, kX, hfX, hkX, -, -, X₁, st1⟩ := Y.newCold hexec (own := own) (C := cls) (index := ik) (n := 6) hown' hk' hins hini'
    (g := F0 m pc ls rest) rfl (by rw [hb]; exact d0) (Nat.le_refl _) (Nat.le_refl _)
  generalize hT1 : (T.setVm vm₁).pushCell { cls := cX, slots := kX.instanceTypes.map defaultValue, vm := .none } = T1 at X₁ st1
  have hcat : (Value.ref T.heap.size).category = 1 := rfl
  have hcellA : T1.heap[T.heap.size]? = some (freshCell cX kX) := by rw [← hT1]; exact State.heap_pushCell_size _ _
  have d3' : decode c.code (pc + 3) = .ok (.dup, 1) := by rw [hb]; exact d3
  have d4' : decode c.code (pc + 4) = .ok (.ldc_w is, 3) := by rw [hb]; exact d4
  have hstr' : vk_R own is text sa s' := vk_R.warm hW0 hstr
  obtain ⟨U, hsteps, hrun, hend, hW, hsame, ce, hce, hO⟩ := X₁.ctorThrowS hexec htr (own := own) (cls := cls) (names := names) (ic := ic) hown' hcls hnames h (fun x hx => nomatch hx) hfX hkX hcellA (by rw [hhp, hT]; exact Nat.le_refl _) (msg := .ref sa) rfl
    (g := { method := m, pc := pc + 7, locals := ls, stack := .ref sa :: .ref T.heap.size :: .ref T.heap.size :: rest, locked := none }) rfl hsize rfl rfl (rest := rest) rfl
    (by rw [hb]; exact d7) (by rw [hb]; exact d10) hout hRframes (by simp only [List.map_cons, List.sum_cons, hcat]; omega) hlocks
  obtain ⟨f1, f2⟩ := vx_frame hsame
  rw [hhp] at f1 f2
  have hWs : s.WarmedH U.vm := State.WarmedH.trans hW0 hW
  have hcl : s.vm.findClass cls = some ce.cls := by
    have h9 := hO.cls
    rw [hvm] at h9
    exact h9
  have hall : s.sameButNew ({ U with vm := s.vm } : State) locs mc ms := by
    subst hA
    obtain ⟨e1, e2⟩ := hsame
    rw [State.setFrames_setFrames] at e1
    have h2 : (T.setVm s.vm).sameButNew ({ U with vm := s.vm } : State) [] (0 + 1) (0 + 6) := ⟨e1, e2⟩
    have h3 := X.same.trans h2
    rw [List.append_nil] at h3
    exact h3.mono hc hs
  refine ⟨U, ?_, .threw T.heap.size, hrun, hend, Or.inr ⟨T.heap.size, rfl, cls, ce, locs, hx U hWs.alike f1 (fun q hq => f2 q hq (fun z hz => nomatch hz)), hce, hO.vm, hcl, hWs, hall, hf⟩⟩
  refine st1 _ ?_
  show Steps p.tables e below (T1.setTop { method := m, pc := pc + 3, locals := ls, stack := .ref T.heap.size :: rest, locked := none }) _
  jvm_step X₁.here [X₁.here.top, hexec, d3', Value.category]
  exact X₁.ldcStringW hexec (own := own) (text := text) (index := is) (a := sa) hown' hstr'.1 hstr'.2
    (g := { method := m, pc := pc + 4, locals := ls, stack := .ref T.heap.size :: .ref T.heap.size :: rest, locked := none }) rfl d4' _ hsteps
end Ends
section Bodies
variable {l : Launch}
theorem vx_ofW {y : MethodName} {ws ws' : List Cond} {rm : Room} {Pc : Array Value → State → Prop} {Qc : Array Value → State → Outcome → State → Prop} {XC : String → State → State → Prop} {mc ms : Nat} {free : Addr → Prop} {cc : ByteArray} {maxL : Nat} {ret : Option FieldType}
    (hy : plainName y.cls = true) (hw : ws = Cond.code y cc maxL ret :: ws')
    (body : ∀ p e s m args below meth c s₁, BodyLoose p l y (headSpec ws rm) cc maxL ret e s m args below meth c s₁ → c.maxLocals = maxL → (∀ x ∈ c.exceptionTable.toList, False) → Pc args s →
      W p l e (headSpec ws rm).room s m args below meth c s.heap [] 0 0 (vx_MQ below Qc XC args s mc ms free) (entryFrame m args maxL)) : vx_Met l y ws rm Pc Qc XC mc ms free := by
  refine MetFree.of_bodyS (code := cc) (maxLocals := maxL) (ret := ret) hy ?_ ?_
  · intro args s m h hn
    obtain ⟨meth, c, h1, h2, h3, h4, h5, h6, -, -⟩ := Cond.code_spec hn (atoms_spec (ws := ws) h _ (by rw [hw]; exact List.mem_cons_self))
    exact ⟨meth, c, h1, h2, h3, h4, h5, h6⟩
  · intro p e s m args below meth c s₁ B hml hP _
    have hh0 : s₁.heap = s.heap := by rw [B.state]; rfl
    have ht : ∀ x ∈ c.exceptionTable.toList, False := by
      obtain ⟨meth9, c9, h1, h2, -, -, -, -, h7, -⟩ := Cond.code_spec B.named (atoms_spec (ws := ws) B.pre _ (by rw [hw]; exact List.mem_cons_self))
      cases Option.some.inj (h1.symm.trans B.method)
      cases Option.some.inj (h2.symm.trans (Stand.of_body B).code)
      intro x hx
      rw [Array.isEmpty_iff.mp h7] at hx
      cases hx
    obtain ⟨t, a1, o, b1, b2, b3⟩ := body p e s m args below meth c s₁ B hml ht hP s₁ hh0 (Stand.of_body B)
    exact ⟨t, o, a1, b1, b2, b3⟩
/-- the table of a body with handlers -/
theorem vx_table {p : Program} {x y : MethodName} {S : Spec} {cc bytes : ByteArray} {maxL maxL' : Nat} {ret ret' : Option FieldType} {e : Env} {s s₁ : State} {m : MethodId} {args : Array Value} {below : List Frame} {meth : Method} {c : Code} {hh : List (Nat × Nat × Nat × Nat)}
    (B : BodyLoose p l y S cc maxL ret e s m args below meth c s₁) (h : (Cond.codeWith y bytes maxL' ret' hh).before args s = true) : c.exceptionTable.toList = tableOf hh := by
  obtain ⟨m9, meth9, c9, hn9, h1, h2, -, -, h6, -⟩ := Cond.codeWith_spec h
  cases Option.some.inj (hn9.symm.trans B.named)
  cases Option.some.inj (h1.symm.trans B.method)
  cases Option.some.inj (h2.symm.trans (Stand.of_body B).code)
  rw [← h6, table_eq]
end Bodies
end VXA
/-! ===== END ===== -/
/-! ===== BEGIN a static call of a method with an exception table ===== -/
section VXS
variable {p : Program} {l : Launch} {e : Env} {R : Room} {s : State} {m : MethodId} {args : Array Value} {below : List Frame} {meth : Method} {c : Code} {T : State} {H : Heap} {locs : List Loc} {cells slots : Nat}
abbrev vx_CSW (R : Room) (s : State) (args : Array Value) (own : String) (index : Nat) (y : MethodName) (bytes : ByteArray) (maxL : Nat) (ret : Option FieldType) (hh : List (Nat × Nat × Nat × Nat)) (ws : List Cond) (rm : Room) (mc ms n : Nat) : Prop :=
  (rm.cells = mc ∧ rm.slots = ms ∧ rm.frames + 1 ≤ R.frames ∧ 8 + (maxL + 11) + rm.locals ≤ R.locals ∧ (∀ w ∈ ws, ∀ (a' : Array Value) (U : State), s.WarmedH U.vm → w.before a' U = true) ∧ Cond.codeWith y bytes maxL ret hh ∈ ws) ∧
  (Cond.codeWith y bytes maxL ret hh).before args s = true ∧ (Cond.initialized y.cls).before args s = true ∧ (y.cls ≠ "java/lang/invoke/MethodHandle" ∧ y.cls ≠ "java/lang/invoke/VarHandle") ∧
  (∀ sig, parseMethodDescriptor y.desc = some sig → n = sig.parameters.length) ∧ (Cond.methodLink own index y).before args s = true ∧ (Cond.static y).before args s = true
theorem vx_cwSW {own : String} {index maxL mc ms : Nat} {y : MethodName} {bytes : ByteArray} {ret : Option FieldType} {hh : List (Nat × Nat × Nat × Nat)} {Ts ws ws' : List Cond} {rm : Room} (n : Nat) (ht : ∀ w ∈ Ts, w.before args s = true) (hT : GoodIn Ts (va_wsS own index y ws)) (hw : ws = Cond.codeWith y bytes maxL ret hh :: ws') (hrc : rm.cells = mc) (hrs : rm.slots = ms)
    (hd : y.cls ≠ "java/lang/invoke/MethodHandle" ∧ y.cls ≠ "java/lang/invoke/VarHandle" ∧ (parseMethodDescriptor y.desc).map (fun d => d.parameters.length) = some n) (hR : rm.frames + 1 ≤ R.frames ∧ 8 + (maxL + 11) + rm.locals ≤ R.locals) :
    vx_CSW R s args own index y bytes maxL ret hh ws rm mc ms n := by
  have ok : ∀ w ∈ va_wsS own index y ws, w.before args s = true := fun w h => ht w (hT w h).1
  have hG : GoodIn Ts ws := fun w h => hT w (by unfold va_wsS; exact List.mem_append_right _ h)
  have hc : Cond.codeWith y bytes maxL ret hh ∈ ws := by rw [hw]; exact List.mem_cons_self
  refine ⟨⟨hrc, hrs, hR.1, hR.2, pay_in ht hG, hc⟩, ht _ (hG _ hc).1, ok _ (by simp [va_wsS]), ⟨hd.1, hd.2.1⟩, fun sig h => ?_, ok _ (by simp [va_wsS]), ok _ (by simp [va_wsS])⟩
  have h2 := hd.2.2
  rw [h] at h2
  exact (Option.some.inj h2).symm
theorem vx_callSW (X : Stand p l e R s m args below meth c T locs cells slots) (hexec : p.tables.exec = Jvm.exec) {own : String} {index : Nat} {y : MethodName} {bytes : ByteArray} {maxL : Nat} {ret : Option FieldType} {hh : List (Nat × Nat × Nat × Nat)}
    (hown : s.vm.findClass own = some m.cls) (hlink : (Cond.methodLink own index y).before args s = true) (hstat : (Cond.static y).before args s = true) (hinit : (Cond.initialized y.cls).before args s = true)
    (hcode : (Cond.codeWith y bytes maxL ret hh).before args s = true) (hy : y.cls ≠ "java/lang/invoke/MethodHandle" ∧ y.cls ≠ "java/lang/invoke/VarHandle")
    {W9 : Nat} {Pre : Pt → Array Value → Prop} {Post : Pt → Array Value → Option Value → Pt → Prop} (hK : Back l R p e below s args y 3 W9 Pre Post)
    {g : JFrame} (hg : g.method = m) (hsize : g.locals.size = c.maxLocals) {argsL rest : List Value} (hlen : ∀ sig, parseMethodDescriptor y.desc = some sig → argsL.length = sig.parameters.length)
    (hstack : g.stack = argsL.reverse ++ rest) (hW : 2 * g.monitorRoom + (rest.map fun v => v.category).sum ≤ W9) (hdg : decode c.code g.pc = .ok (.invokestatic index, 3))
    (hpre : ∀ vm₁, s.WarmedH vm₁ → Pre ⟨T.setVm vm₁, locs, cells, slots⟩ argsL.toArray) :
    ∃ (v : Option Value) (vm₁ : Vm) (B : Pt), s.WarmedH vm₁ ∧ Stand p l e R s m args below meth c B.U B.locs B.cells B.slots ∧ Post ⟨T.setVm vm₁, locs, cells, slots⟩ argsL.toArray v B ∧
      ∀ target, Steps p.tables e below (B.U.setTop { g with pc := g.pc + 3, stack := v.toList ++ rest }) target → Steps p.tables e below (T.setTop g) target := by
  obtain ⟨mk, methM, cM, hnamed, hmethM, -, -, -, -, -, -, hsigM⟩ := Cond.codeWith_spec hcode
  have hstatic : methM.isStatic = true := Cond.static_spec hnamed hmethM hstat
  obtain ⟨kP, hkP, -⟩ := className_of_methodNamed hnamed
  have hinitP : kP.init = .initialized := Cond.initialized_spec (findClass_of_methodNamed hnamed) hkP hinit
  obtain ⟨vm₁, X₁, hstep₁⟩ := X.invokestatic hexec hown hlink hnamed hmethM hstatic hkP hinitP hy (g := g) hg (argsL := argsL) (rest := rest) (hlen _ hsigM) hstack hdg
  obtain ⟨v, B, X', hpost, hsteps⟩ := hK m meth c ⟨T.setVm vm₁, locs, cells, slots⟩ { g with stack := rest } (.invokestatic index) mk argsL.toArray X₁ hg hsize hdg hW (X₁.named hnamed) (hpre vm₁ X₁.warmed)
  exact ⟨v, vm₁, B, X₁.warmed, X', hpost, fun target h => hstep₁ _ fun acts => by rw [doInvoke_state]; exact hsteps.trans h⟩
theorem vx_runSW {y : MethodName} {bytes cc : ByteArray} {maxL nL mc ms n index : Nat} {ret : Option FieldType} {hh : List (Nat × Nat × Nat × Nat)} {ws : List Cond} {rm : Room} {Pc : Array Value → State → Prop} {Qc : Array Value → State → Outcome → State → Prop} {free : Addr → Prop} {Ts : List Cond} {own : String} {As rest : List Value} {g : JFrame}
    (S : CallFix p m c cc nL s args Ts own) (hM : Met l y ws rm Pc Qc mc ms free) (cw : vx_CSW R s args own index y bytes maxL ret hh ws rm mc ms n) (hp : PreS s H Pc As)
    (hg : g.method = m) (hn : As.length = n) (hsize : g.locals.size = nL) (hstack : g.stack = As.reverse ++ rest) (hW : 2 * g.monitorRoom + (rest.map fun v => v.category).sum ≤ 8) (hdg : decode cc g.pc = .ok (.invokestatic index, 3)) (hf : cells + mc ≤ R.cells ∧ slots + ms ≤ R.slots) :
    va_Run p l e R s m args below meth c H locs cells slots mc ms g rest (Qc As.toArray) (free) := by
  obtain ⟨⟨hrc, hrs, hfr, hlo, hws, hcw⟩, hcode, hini, hy, hlen, hl, hstt⟩ := cw
  have hK : Back l R p e below s args y 3 8 (PreOf R mc ms Pc) (PostOf Qc mc ms free) := va_backW (hh := hh) (bytes := bytes) (maxL := maxL) (ret := ret) hM hp.1 hrc hrs hfr hlo hws hcw (fun a' U hW => word_at hW (Or.inl (by first | rfl | simp [Cond.onTables, Cond.keeps, Cond.steady])) hini)
  obtain ⟨hx, hb, hml, ho, -⟩ := S
  intro T hT X
  obtain ⟨v, vm₁, ⟨U', l2, c2, s2⟩, hW₁, X', ⟨g', mk, t, L, e1, e2, hq, h1, hL, h2, h3⟩, st⟩ := vx_callSW X hx (hh := hh) (bytes := bytes) (maxL := maxL) (ret := ret) ho hl hstt hini hcode hy hK hg (hsize.trans hml.symm) (argsL := As) (rest := rest) (fun sig h => hn.trans (hlen sig h)) hstack hW (by rw [hb]; exact hdg)
    (fun vm₁ hW₁ => ⟨hf.1, hf.2, hp.2 (T.setVm vm₁) hT hW₁⟩)
  dsimp only [Pt.U, Pt.locs, Pt.cells, Pt.slots] at X' e1 e2 h1 h2 h3 st
  subst h1; subst h2; subst h3
  exact ⟨v, (T.setVm vm₁).calling g' mk As.toArray, t, U', L, hT, X', hL, e1, e2, hq, st⟩
/-- not caught here, past rows that name other classes: it goes on to the caller -/
theorem vx_outP {p : Program} {l : Launch} {e : Env} {R : Room} {s : State} {m : MethodId} {args : Array Value} {below : List Frame} {meth : Method} {c : Code} {H : Heap} {locs : List Loc} {cells slots : Nat} {free : Addr → Prop} {ls : Array Slot} {rest : List Value} {Qc : Array Value → State → Outcome → State → Prop} {XC : String → State → State → Prop}
    {pc : Nat} {own E : String} {ce : Cell} {q : Addr} {mc ms : Nat} (hown : s.vm.findClass own = some m.cls) (hlocks : meth.locks = false)
    (hpass : ∀ z ∈ c.exceptionTable.toList, covers z pc = false ∨ (z.catchType ≠ 0 ∧ ∃ nm : String, (Cond.classLink own z.catchType nm).before args s = true ∧ va_Nc E nm s)) (hcell : H[q]? = some ce) (hv : ce.vm = .none) (hcl : s.vm.findClass E = some ce.cls)
    (hx : ∀ t : State, t.heap = H → s.vm.Alike t.vm → XC E s t) (hf : ∀ z ∈ locs, free z.base) (hc : cells ≤ mc) (hs : slots ≤ ms) :
    vx_W p l e R s m args below meth c H locs cells slots (vx_MQ below Qc XC args s mc ms free) (F0 m pc ls rest) q := by
  intro T hT X
  have hpl : e.platform.magicAccessors = ({} : Platform).magicAccessors := by rw [X.admits.platform]
  obtain ⟨vm', hW', X', st⟩ := X.outThrough hlocks q (g := F0 m pc ls rest) rfl rfl rfl (cell := ce) (by rw [hT]; exact hcell) (by rw [hv]; rfl)
    (by obtain ⟨k9, h9, -⟩ := Vm.findClass_spec hcl; exact ⟨k9, h9⟩) (fun z hz => by
      rcases hpass z hz with h | ⟨hz0, nm, hl1, hn1⟩
      · exact Or.inl h
      · obtain ⟨c6, hc6, hcl6⟩ := Cond.classLink_spec hown hl1 e.platform hpl
        obtain ⟨a8, b8, h1, h2, h3⟩ := hn1
        cases Option.some.inj (h1.symm.trans hcl)
        cases Option.some.inj (h2.symm.trans hc6)
        exact Or.inr ⟨hz0, _, hcl6, h3⟩)
  obtain ⟨g₀, hfr⟩ := X'.frames_eq
  have hcell9 : ((T.setVm vm').setFrames (.throwing q :: below)).heap[q]? = some ce := by
    show T.heap[q]? = some ce
    rw [hT]; exact hcell
  have hend : Ended ((T.setVm vm').setFrames (.throwing q :: below)) below (.threw q) := State.frames_setFrames _ (State.cur_lt_of_frames hfr)
  refine ⟨(T.setVm vm').setFrames (.throwing q :: below), ?_, .threw q, X'.here.running, hend, Or.inr ⟨q, rfl, E, ce, locs, hx _ hT (X'.ends _).1.alike, hcell9, hv, hcl, (X'.ends _).1, (X'.ends _).2.mono hc hs, hf⟩⟩
  rw [X.pushThrowing_eq]
  exact st
/-- a thing of a world lies in the heap -/
theorem vx_lt {D : va_G} {cl : List vw_C} {ws : va_W} {H1 : Heap} (h : va_P D cl ws H1) {k : Nat} {q : Nat × va_E} (hk : ws[k]? = some q) : q.1 < H1.size := (h k q hk).lt
end VXS
/-! ===== END ===== -/
/-! ===== BEGIN methods with a table of their own: called by a name, returning or throwing ===== -/
section VXH
/-! vx_backW, vx_callVX, vx_callSX, vx_callVW, vx_runVW, vx_runVX, vx_runSX, vx_ofWH follow the same proofs as their sisters above (Free/Laws.lean, Shelf42/LK1.lean); vx_outP calls Shelf42/NT130.lean (outThrough). -/
section
variable {l : Launch} {R : Room} {p : Program} {e : Env} {below : List Frame} {s : State} {sargs : Array Value} {y : MethodName} {len W9 : Nat}
theorem vx_backW {ws : List Cond} {rm : Room} {Pc : Array Value → State → Prop} {Qc : Array Value → State → Outcome → State → Prop} {XC : String → State → State → Prop} {mc ms : Nat} {free : Addr → Prop} {bytes : ByteArray} {maxL : Nat} {ret : Option FieldType} {hh : List (Nat × Nat × Nat × Nat)}
    (hM : vx_Met l y ws rm Pc Qc XC mc ms free) (hblind : FrameBlind Pc) (hrc : rm.cells = mc) (hrs : rm.slots = ms)
    (hframes : rm.frames + 1 ≤ R.frames) (hlocals : W9 + (maxL + 11) + rm.locals ≤ R.locals)
    (hws : ∀ w ∈ ws, ∀ a' U, s.WarmedH U.vm → w.before a' U = true) (hcode : Cond.codeWith y bytes maxL ret hh ∈ ws) (hinit : ∀ a' U, s.WarmedH U.vm → (Cond.initialized y.cls).before a' U = true) :
    vx_Back l R p e below s sargs y len W9 (PreOf R mc ms Pc) (PostOf Qc mc ms free) (vx_Post XC mc ms free) := by
  intro m meth c A g ig mk a X hg hsize hdg hW hn hp
  have h1 : (headSpec ws rm).pre.before a A.U = true := atoms_intro fun w hw => hws w hw _ _ X.warmed
  have h2 : (Cond.codeWith y bytes maxL ret hh).before a A.U = true := hws _ hcode _ _ X.warmed
  have h3 : (Cond.initialized y.cls).before a A.U = true := hinit _ _ X.warmed
  have h4 : A.cells + (headSpec ws rm).room.cells ≤ R.cells := by rw [show (headSpec ws rm).room.cells = mc from hrc]; exact hp.1
  have h5 : A.slots + (headSpec ws rm).room.slots ≤ R.slots := by rw [show (headSpec ws rm).room.slots = ms from hrs]; exact hp.2.1
  have hPc : Pc a (A.U.calling g mk a) := hblind _ _ _ _ hp.2.2
  obtain ⟨U, Ls, c0, s0⟩ := A
  dsimp only [Pt.U, Pt.locs, Pt.cells, Pt.slots] at h1 h2 h3 h4 h5 X hn hPc ⊢
  obtain ⟨m9, methY, cY, hn9, hmY, hcY, -, hlY, -⟩ := Cond.codeWith_spec h2
  cases Option.some.inj (hn9.symm.trans hn)
  obtain ⟨kY, hkY, -⟩ := className_of_methodNamed hn
  have hinitY : kY.init = .initialized := Cond.initialized_spec (findClass_of_methodNamed hn) hkY h3
  have h : At U g.method c below := by rw [hg]; exact X.here
  have hlocals9 : W9 + (maxL + 11) + (headSpec ws rm).room.locals ≤ R.locals := hlocals
  have happ : (headSpec ws rm).appliesLoose y e.platform (U.calling g mk a) = true :=
    Spec.appliesLoose_calling (g := g) h hdg hn hkY hinitY
      (X.room_calling (g := g) (R' := (headSpec ws rm).room) hsize hmY hcY hframes (by rw [hlY]; omega) h4 h5) h1
  obtain ⟨mid, hmid⟩ := h.above
  have hfr : (U.setTop g).frames = (.java g :: mid) ++ below := by rw [State.frames_setTop' g h.top, hmid]; rfl
  obtain ⟨o, s₂, hsteps, -, hend, hq⟩ := Steps.callFree hM p X.admits X.cas X.clock (acts := []) hfr happ hPc trivial
  have hq' : vx_Q Qc XC mc ms free a (U.calling g mk a) o s₂ := hq
  rw [State.frames_setTop' g h.top] at hend
  obtain ⟨g₀, hg0⟩ := Option.isSome_iff_exists.mp h.top
  obtain ⟨r, hr⟩ := State.topJava?_eq_some.mp hg0
  have hr' : (({ U with heap := s₂.heap, slotsUsed := s₂.slotsUsed } : State).setVm s₂.vm).frames = .java g₀ :: r := hr
  rcases hq' with ⟨hqc, L, hfe, hL⟩ | ⟨q, rfl, E, ce, L, hx, hce, hcv, hcl, hW₂, hsm, hL⟩
  · obtain ⟨⟨v, rfl⟩, hW₂, e2, q2, q3, q4, q5, q6⟩ := id hfe
    have e3 : s₂ = ({ (U.calling g mk a).setFrames s₂.frames with heap := s₂.heap, slotsUsed := s₂.slotsUsed } : State).setVm s₂.vm := by
      have : s₂ = ({ s₂ with vm := (U.calling g mk a).vm } : State).setVm s₂.vm := rfl
      rw [e2] at this
      exact this
    obtain ⟨c₂, i₂, len₂, hc₂, hd₂, hf₂⟩ := hend
    have hW' : U.WarmedH s₂.vm := hW₂
    have hcc : c₂ = c := by
      have h1 : s₂.code? g.method = U.code? g.method := by
        rw [State.code?_eq, State.code?_eq, hW'.alike.method?]
      exact Option.some.inj (hc₂.symm.trans (h1.trans h.code))
    subst hcc
    have hlen : len₂ = len := by rw [hdg] at hd₂; cases hd₂; rfl
    subst hlen
    have hs₂ : s₂ = (({ U with heap := s₂.heap, slotsUsed := s₂.slotsUsed } : State).setVm s₂.vm).setTop { g with pc := g.pc + len₂, stack := v.toList ++ g.stack } := by
      refine e3.trans ?_
      rw [hf₂, State.calling_eq h.top, State.setFrames_setFrames, State.setTop_of_frames _ hr', hr]
      rfl
    have hsame : U.sameButNew ({ U with heap := s₂.heap, slotsUsed := s₂.slotsUsed } : State) L mc ms := by
      refine ⟨?_, q2, q3, q4, q5, q6⟩
      obtain ⟨t, ht, -⟩ := State.frames_cons hr
      show ({ U with heap := s₂.heap, slotsUsed := s₂.slotsUsed } : State) = { U.setFrames U.frames with heap := s₂.heap, slotsUsed := s₂.slotsUsed }
      rw [State.setFrames_self ht]
    subst hg
    refine Or.inl ⟨v, ⟨(({ U with heap := s₂.heap, slotsUsed := s₂.slotsUsed } : State).setVm s₂.vm), Ls ++ L, c0 + mc, s0 + ms⟩,
      ⟨X.admits, X.cas, X.clock, X.frames, X.room, X.hears, X.method, X.code, (X.here.setHeapUsed s₂.heap s₂.slotsUsed).setVm hW'.alike, X.tail, State.WarmedH.trans X.warmed hW', X.limits, X.bytes, X.same.trans (hsame.setVm s.vm)⟩,
      ⟨g, mk, s₂, L, rfl, rfl, hqc, rfl, hL, rfl, rfl⟩, ?_⟩
    show Steps p.tables e below _ ((({ U with heap := s₂.heap, slotsUsed := s₂.slotsUsed } : State).setVm s₂.vm).setTop { g with pc := g.pc + len₂, stack := v.toList ++ g.stack })
    rw [← hs₂]
    exact hsteps
  · obtain ⟨e2, q2, q3, q4, q5, q6⟩ := id hsm
    have e3 : s₂ = ({ (U.calling g mk a).setFrames s₂.frames with heap := s₂.heap, slotsUsed := s₂.slotsUsed } : State).setVm s₂.vm := by
      have : s₂ = ({ s₂ with vm := (U.calling g mk a).vm } : State).setVm s₂.vm := rfl
      rw [e2] at this
      exact this
    have hf₂ : s₂.frames = .throwing q :: .java g :: U.frames.tail := hend
    have hW' : U.WarmedH s₂.vm := hW₂
    have hs₂ : s₂ = ((({ U with heap := s₂.heap, slotsUsed := s₂.slotsUsed } : State).setVm s₂.vm).setTop g).pushFrame (.throwing q) := by
      refine e3.trans ?_
      rw [hf₂, State.calling_eq h.top, State.setFrames_setFrames, State.pushFrame, State.frames_setTop _ hr', State.setTop_of_frames _ hr', State.setFrames_setFrames, hr]
      rfl
    have hsame : U.sameButNew ({ U with heap := s₂.heap, slotsUsed := s₂.slotsUsed } : State) L mc ms := by
      refine ⟨?_, q2, q3, q4, q5, q6⟩
      obtain ⟨t, ht, -⟩ := State.frames_cons hr
      show ({ U with heap := s₂.heap, slotsUsed := s₂.slotsUsed } : State) = { U.setFrames U.frames with heap := s₂.heap, slotsUsed := s₂.slotsUsed }
      rw [State.setFrames_self ht]
    subst hg
    refine Or.inr ⟨q, ⟨(({ U with heap := s₂.heap, slotsUsed := s₂.slotsUsed } : State).setVm s₂.vm), Ls ++ L, c0 + mc, s0 + ms⟩,
      ⟨X.admits, X.cas, X.clock, X.frames, X.room, X.hears, X.method, X.code, (X.here.setHeapUsed s₂.heap s₂.slotsUsed).setVm hW'.alike, X.tail, State.WarmedH.trans X.warmed hW', X.limits, X.bytes, X.same.trans (hsame.setVm s.vm)⟩,
      ⟨g, mk, s₂, L, E, ce, rfl, rfl, hx, hce, hcv, hcl, rfl, hL, rfl, rfl⟩, ?_⟩
    show Steps p.tables e below _ (((({ U with heap := s₂.heap, slotsUsed := s₂.slotsUsed } : State).setVm s₂.vm).setTop g).pushFrame (.throwing q))
    rw [← hs₂]
    exact hsteps
end
variable {p : Program} {l : Launch} {e : Env} {R : Room} {s : State} {m : MethodId} {args : Array Value} {below : List Frame} {meth : Method} {c : Code} {T : State} {H : Heap} {locs : List Loc} {cells slots : Nat}
theorem vx_callVX (X : Stand p l e R s m args below meth c T locs cells slots) (hexec : p.tables.exec = Jvm.exec) {own C : String} {index : Nat} {y : MethodName} {bytes : ByteArray} {maxL : Nat} {ret : Option FieldType} {hh : List (Nat × Nat × Nat × Nat)}
    (hown : s.vm.findClass own = some m.cls) (hlink : (Cond.methodLink own index y).before args s = true) (hinst : (Cond.instanceMethod y).before args s = true) (hsel : (Cond.selects C y y).before args s = true)
    (hcode : (Cond.codeWith y bytes maxL ret hh).before args s = true) (hy : y.cls ≠ "java/lang/invoke/MethodHandle" ∧ y.cls ≠ "java/lang/invoke/VarHandle")
    {W9 : Nat} {Pre : Pt → Array Value → Prop} {Post : Pt → Array Value → Option Value → Pt → Prop} {PostX : Pt → Array Value → Addr → Pt → Prop} (hK : vx_Back l R p e below s args y 3 W9 Pre Post PostX)
    {b : Addr} {cellB : Cell} (hcell : T.heap[b]? = some cellB) (hobj : cellB.vm.isStatics = false) (hcls : s.vm.findClass C = some cellB.cls)
    {g : JFrame} (hg : g.method = m) (hsize : g.locals.size = c.maxLocals) {argsL rest : List Value} (hlen : ∀ sig, parseMethodDescriptor y.desc = some sig → argsL.length = sig.parameters.length)
    (hstack : g.stack = argsL.reverse ++ .ref b :: rest) (hW : 2 * g.monitorRoom + (rest.map fun v => v.category).sum ≤ W9) (hdg : decode c.code g.pc = .ok (.invokevirtual index, 3))
    (hpre : ∀ vm₁, s.WarmedH vm₁ → Pre ⟨T.setVm vm₁, locs, cells, slots⟩ (Value.ref b :: argsL).toArray) :
    (∃ (v : Option Value) (vm₁ : Vm) (B : Pt), s.WarmedH vm₁ ∧ Stand p l e R s m args below meth c B.U B.locs B.cells B.slots ∧ Post ⟨T.setVm vm₁, locs, cells, slots⟩ (Value.ref b :: argsL).toArray v B ∧
      ∀ target, Steps p.tables e below (B.U.setTop { g with pc := g.pc + 3, stack := v.toList ++ rest }) target → Steps p.tables e below (T.setTop g) target) ∨
    (∃ (q : Addr) (vm₁ : Vm) (B : Pt), s.WarmedH vm₁ ∧ Stand p l e R s m args below meth c B.U B.locs B.cells B.slots ∧ PostX ⟨T.setVm vm₁, locs, cells, slots⟩ (Value.ref b :: argsL).toArray q B ∧
      Steps p.tables e below (T.setTop g) ((B.U.setTop { g with stack := rest }).pushFrame (.throwing q))) := by
  obtain ⟨mk, methM, hnamed, hmethM, hstM, habM⟩ := Cond.instanceMethod_spec hinst
  obtain ⟨m8, methM', cM, hn8, hmethM', -, -, -, -, -, -, hsigM⟩ := Cond.codeWith_spec hcode
  cases Option.some.inj (hn8.symm.trans hnamed)
  cases hmethM.symm.trans hmethM'
  obtain ⟨c2, r2, m2, q1, q2, q3, q4, kP, hkP, hkPi⟩ := Cond.selects_spec hsel
  cases hcls.symm.trans q1
  cases (State.methodFound?_of_named hnamed hy).symm.trans q2
  cases hnamed.symm.trans q3
  have hselP : selectMethod e.platform s.vm cellB.cls mk = .method mk := by rw [Launch.admits_selectMethod X.admits]; exact q4
  obtain ⟨vm₁, X₁, hstep₁⟩ := X.invokevirtual hexec hown hlink hnamed hmethM hstM hkP hkPi hy (a := b) (cell := cellB) hcell
    (fun z h => by rw [h] at hobj; cases hobj) hselP hmethM habM hkP hkPi (g := g) hg (argsL := argsL) (rest := rest) (hlen _ hsigM) hstack hdg
  rcases hK m meth c ⟨T.setVm vm₁, locs, cells, slots⟩ { g with stack := rest } (.invokevirtual index) mk (Value.ref b :: argsL).toArray X₁ hg hsize hdg hW (X₁.named hnamed) (hpre vm₁ X₁.warmed) with ⟨v, B, X', hpost, hsteps⟩ | ⟨q, B, X', hpost, hsteps⟩
  · exact Or.inl ⟨v, vm₁, B, X₁.warmed, X', hpost, fun target h => hstep₁ _ fun acts => by rw [doInvoke_state]; exact hsteps.trans h⟩
  · exact Or.inr ⟨q, vm₁, B, X₁.warmed, X', hpost, hstep₁ _ fun acts => by rw [doInvoke_state]; exact hsteps⟩
theorem vx_callSX (X : Stand p l e R s m args below meth c T locs cells slots) (hexec : p.tables.exec = Jvm.exec) {own : String} {index : Nat} {y : MethodName} {bytes : ByteArray} {maxL : Nat} {ret : Option FieldType} {hh : List (Nat × Nat × Nat × Nat)}
    (hown : s.vm.findClass own = some m.cls) (hlink : (Cond.methodLink own index y).before args s = true) (hstat : (Cond.static y).before args s = true) (hinit : (Cond.initialized y.cls).before args s = true)
    (hcode : (Cond.codeWith y bytes maxL ret hh).before args s = true) (hy : y.cls ≠ "java/lang/invoke/MethodHandle" ∧ y.cls ≠ "java/lang/invoke/VarHandle")
    {W9 : Nat} {Pre : Pt → Array Value → Prop} {Post : Pt → Array Value → Option Value → Pt → Prop} {PostX : Pt → Array Value → Addr → Pt → Prop} (hK : vx_Back l R p e below s args y 3 W9 Pre Post PostX)
    {g : JFrame} (hg : g.method = m) (hsize : g.locals.size = c.maxLocals) {argsL rest : List Value} (hlen : ∀ sig, parseMethodDescriptor y.desc = some sig → argsL.length = sig.parameters.length)
    (hstack : g.stack = argsL.reverse ++ rest) (hW : 2 * g.monitorRoom + (rest.map fun v => v.category).sum ≤ W9) (hdg : decode c.code g.pc = .ok (.invokestatic index, 3))
    (hpre : ∀ vm₁, s.WarmedH vm₁ → Pre ⟨T.setVm vm₁, locs, cells, slots⟩ argsL.toArray) :
    (∃ (v : Option Value) (vm₁ : Vm) (B : Pt), s.WarmedH vm₁ ∧ Stand p l e R s m args below meth c B.U B.locs B.cells B.slots ∧ Post ⟨T.setVm vm₁, locs, cells, slots⟩ argsL.toArray v B ∧
      ∀ target, Steps p.tables e below (B.U.setTop { g with pc := g.pc + 3, stack := v.toList ++ rest }) target → Steps p.tables e below (T.setTop g) target) ∨
    (∃ (q : Addr) (vm₁ : Vm) (B : Pt), s.WarmedH vm₁ ∧ Stand p l e R s m args below meth c B.U B.locs B.cells B.slots ∧ PostX ⟨T.setVm vm₁, locs, cells, slots⟩ argsL.toArray q B ∧
      Steps p.tables e below (T.setTop g) ((B.U.setTop { g with stack := rest }).pushFrame (.throwing q))) := by
  obtain ⟨mk, methM, cM, hnamed, hmethM, -, -, -, -, -, -, hsigM⟩ := Cond.codeWith_spec hcode
  have hstatic : methM.isStatic = true := Cond.static_spec hnamed hmethM hstat
  obtain ⟨kP, hkP, -⟩ := className_of_methodNamed hnamed
  have hinitP : kP.init = .initialized := Cond.initialized_spec (findClass_of_methodNamed hnamed) hkP hinit
  obtain ⟨vm₁, X₁, hstep₁⟩ := X.invokestatic hexec hown hlink hnamed hmethM hstatic hkP hinitP hy (g := g) hg (argsL := argsL) (rest := rest) (hlen _ hsigM) hstack hdg
  rcases hK m meth c ⟨T.setVm vm₁, locs, cells, slots⟩ { g with stack := rest } (.invokestatic index) mk argsL.toArray X₁ hg hsize hdg hW (X₁.named hnamed) (hpre vm₁ X₁.warmed) with ⟨v, B, X', hpost, hsteps⟩ | ⟨q, B, X', hpost, hsteps⟩
  · exact Or.inl ⟨v, vm₁, B, X₁.warmed, X', hpost, fun target h => hstep₁ _ fun acts => by rw [doInvoke_state]; exact hsteps.trans h⟩
  · exact Or.inr ⟨q, vm₁, B, X₁.warmed, X', hpost, hstep₁ _ fun acts => by rw [doInvoke_state]; exact hsteps⟩
theorem vx_callVW (X : Stand p l e R s m args below meth c T locs cells slots) (hexec : p.tables.exec = Jvm.exec) {own C : String} {index : Nat} {y : MethodName} {bytes : ByteArray} {maxL : Nat} {ret : Option FieldType} {hh : List (Nat × Nat × Nat × Nat)}
    (hown : s.vm.findClass own = some m.cls) (hlink : (Cond.methodLink own index y).before args s = true) (hinst : (Cond.instanceMethod y).before args s = true) (hsel : (Cond.selects C y y).before args s = true)
    (hcode : (Cond.codeWith y bytes maxL ret hh).before args s = true) (hy : y.cls ≠ "java/lang/invoke/MethodHandle" ∧ y.cls ≠ "java/lang/invoke/VarHandle")
    {W9 : Nat} {Pre : Pt → Array Value → Prop} {Post : Pt → Array Value → Option Value → Pt → Prop} (hK : Back l R p e below s args y 3 W9 Pre Post)
    {b : Addr} {cellB : Cell} (hcell : T.heap[b]? = some cellB) (hobj : cellB.vm.isStatics = false) (hcls : s.vm.findClass C = some cellB.cls)
    {g : JFrame} (hg : g.method = m) (hsize : g.locals.size = c.maxLocals) {argsL rest : List Value} (hlen : ∀ sig, parseMethodDescriptor y.desc = some sig → argsL.length = sig.parameters.length)
    (hstack : g.stack = argsL.reverse ++ .ref b :: rest) (hW : 2 * g.monitorRoom + (rest.map fun v => v.category).sum ≤ W9) (hdg : decode c.code g.pc = .ok (.invokevirtual index, 3))
    (hpre : ∀ vm₁, s.WarmedH vm₁ → Pre ⟨T.setVm vm₁, locs, cells, slots⟩ (Value.ref b :: argsL).toArray) :
    ∃ (v : Option Value) (vm₁ : Vm) (B : Pt), s.WarmedH vm₁ ∧ Stand p l e R s m args below meth c B.U B.locs B.cells B.slots ∧ Post ⟨T.setVm vm₁, locs, cells, slots⟩ (Value.ref b :: argsL).toArray v B ∧
      ∀ target, Steps p.tables e below (B.U.setTop { g with pc := g.pc + 3, stack := v.toList ++ rest }) target → Steps p.tables e below (T.setTop g) target := by
  obtain ⟨mk, methM, hnamed, hmethM, hstM, habM⟩ := Cond.instanceMethod_spec hinst
  obtain ⟨m8, methM', cM, hn8, hmethM', -, -, -, -, -, -, hsigM⟩ := Cond.codeWith_spec hcode
  cases Option.some.inj (hn8.symm.trans hnamed)
  cases hmethM.symm.trans hmethM'
  obtain ⟨c2, r2, m2, q1, q2, q3, q4, kP, hkP, hkPi⟩ := Cond.selects_spec hsel
  cases hcls.symm.trans q1
  cases (State.methodFound?_of_named hnamed hy).symm.trans q2
  cases hnamed.symm.trans q3
  have hselP : selectMethod e.platform s.vm cellB.cls mk = .method mk := by rw [Launch.admits_selectMethod X.admits]; exact q4
  obtain ⟨vm₁, X₁, hstep₁⟩ := X.invokevirtual hexec hown hlink hnamed hmethM hstM hkP hkPi hy (a := b) (cell := cellB) hcell
    (fun z h => by rw [h] at hobj; cases hobj) hselP hmethM habM hkP hkPi (g := g) hg (argsL := argsL) (rest := rest) (hlen _ hsigM) hstack hdg
  obtain ⟨v, B, X', hpost, hsteps⟩ := hK m meth c ⟨T.setVm vm₁, locs, cells, slots⟩ { g with stack := rest } (.invokevirtual index) mk (Value.ref b :: argsL).toArray X₁ hg hsize hdg hW (X₁.named hnamed) (hpre vm₁ X₁.warmed)
  exact ⟨v, vm₁, B, X₁.warmed, X', hpost, fun target h => hstep₁ _ fun acts => by rw [doInvoke_state]; exact hsteps.trans h⟩
abbrev vx_CVW (R : Room) (s : State) (args : Array Value) (own C : String) (index : Nat) (y : MethodName) (bytes : ByteArray) (maxL : Nat) (ret : Option FieldType) (hh : List (Nat × Nat × Nat × Nat)) (ws : List Cond) (rm : Room) (mc ms n : Nat) : Prop :=
  (rm.cells = mc ∧ rm.slots = ms ∧ rm.frames + 1 ≤ R.frames ∧ 8 + (maxL + 11) + rm.locals ≤ R.locals ∧ (∀ w ∈ ws, ∀ (a' : Array Value) (U : State), s.WarmedH U.vm → w.before a' U = true) ∧ Cond.codeWith y bytes maxL ret hh ∈ ws) ∧
  (Cond.codeWith y bytes maxL ret hh).before args s = true ∧ (Cond.initialized y.cls).before args s = true ∧ (y.cls ≠ "java/lang/invoke/MethodHandle" ∧ y.cls ≠ "java/lang/invoke/VarHandle") ∧
  (∀ sig, parseMethodDescriptor y.desc = some sig → n = sig.parameters.length) ∧ (Cond.methodLink own index y).before args s = true ∧ (Cond.instanceMethod y).before args s = true ∧ (Cond.selects C y y).before args s = true
theorem vx_cwVW {own C : String} {index maxL mc ms : Nat} {y : MethodName} {bytes : ByteArray} {ret : Option FieldType} {hh : List (Nat × Nat × Nat × Nat)} {Ts ws ws' : List Cond} {rm : Room} (n : Nat) (ht : ∀ w ∈ Ts, w.before args s = true) (hT : GoodIn Ts (wsV own index C y ws)) (hw : ws = Cond.codeWith y bytes maxL ret hh :: ws') (hrc : rm.cells = mc) (hrs : rm.slots = ms)
    (hd : y.cls = C ∧ y.cls ≠ "java/lang/invoke/MethodHandle" ∧ y.cls ≠ "java/lang/invoke/VarHandle" ∧ (parseMethodDescriptor y.desc).map (fun d => d.parameters.length) = some n) (hR : rm.frames + 1 ≤ R.frames ∧ 8 + (maxL + 11) + rm.locals ≤ R.locals) :
    vx_CVW R s args own C index y bytes maxL ret hh ws rm mc ms n := by
  obtain ⟨hC, hd⟩ := hd
  subst hC
  have ok : ∀ w ∈ wsV own index y.cls y ws, w.before args s = true := fun w h => ht w (hT w h).1
  have hG : GoodIn Ts ws := fun w h => hT w (by unfold wsV; exact List.mem_append_right _ h)
  have hc : Cond.codeWith y bytes maxL ret hh ∈ ws := by rw [hw]; exact List.mem_cons_self
  refine ⟨⟨hrc, hrs, hR.1, hR.2, pay_in ht hG, hc⟩, ht _ (hG _ hc).1, ok _ (by simp [wsV]), ⟨hd.1, hd.2.1⟩, fun sig h => ?_, ok _ (by simp [wsV]), ok _ (by simp [wsV]), ok _ (by simp [wsV])⟩
  have h2 := hd.2.2
  rw [h] at h2
  exact (Option.some.inj h2).symm
theorem vx_runVW {y : MethodName} {bytes cc : ByteArray} {maxL nL mc ms n index : Nat} {ret : Option FieldType} {hh : List (Nat × Nat × Nat × Nat)} {ws : List Cond} {rm : Room} {Pc : Array Value → State → Prop} {Qc : Array Value → State → Outcome → State → Prop} {free : Addr → Prop} {Ts : List Cond} {own C : String} {b : Addr} {As rest : List Value} {g : JFrame}
    (S : CallFix p m c cc nL s args Ts own) (hM : Met l y ws rm Pc Qc mc ms free) (cw : vx_CVW R s args own C index y bytes maxL ret hh ws rm mc ms n) (hp : PreV s H C b Pc As)
    (hg : g.method = m) (hn : As.length = n) (hsize : g.locals.size = nL) (hstack : g.stack = As.reverse ++ .ref b :: rest) (hW : 2 * g.monitorRoom + (rest.map fun v => v.category).sum ≤ 8) (hdg : decode cc g.pc = .ok (.invokevirtual index, 3)) (hf : cells + mc ≤ R.cells ∧ slots + ms ≤ R.slots) :
    va_Run p l e R s m args below meth c H locs cells slots mc ms g rest (Qc (Value.ref b :: As).toArray) free := by
  obtain ⟨⟨hrc, hrs, hfr, hlo, hws, hcw⟩, hcode, hini, hy, hlen, hl, hin, hse⟩ := cw
  have hK : Back l R p e below s args y 3 8 (PreOf R mc ms Pc) (PostOf Qc mc ms free) := va_backW (hh := hh) (bytes := bytes) (maxL := maxL) (ret := ret) hM hp.1 hrc hrs hfr hlo hws hcw (fun a' U hW => word_at hW (Or.inl (by first | rfl | simp [Cond.onTables, Cond.keeps, Cond.steady])) hini)
  obtain ⟨hx, hb, hml, ho, -⟩ := S
  obtain ⟨-, ⟨cellB, hcB, hoB, hclB⟩, hPc⟩ := hp
  intro T hT X
  obtain ⟨v, vm₁, ⟨U', l2, c2, s2⟩, hW₁, X', ⟨g', mk, t, L, e1, e2, hq, h1, hL, h2, h3⟩, st⟩ := vx_callVW X hx (C := C) (hh := hh) (bytes := bytes) (maxL := maxL) (ret := ret) ho hl hin hse hcode hy hK (by rw [hT]; exact hcB) hoB hclB hg (hsize.trans hml.symm) (argsL := As) (rest := rest) (fun sig h => hn.trans (hlen sig h)) hstack hW (by rw [hb]; exact hdg)
    (fun vm₁ hW₁ => ⟨hf.1, hf.2, hPc (T.setVm vm₁) hT hW₁⟩)
  dsimp only [Pt.U, Pt.locs, Pt.cells, Pt.slots] at X' e1 e2 h1 h2 h3 st
  subst h1; subst h2; subst h3
  exact ⟨v, (T.setVm vm₁).calling g' mk (Value.ref b :: As).toArray, t, U', L, hT, X', hL, e1, e2, hq, st⟩
section
variable {y : MethodName} {bytes cc : ByteArray} {maxL nL mc ms n index : Nat} {ret : Option FieldType} {ws : List Cond} {rm : Room} {Pc : Array Value → State → Prop} {Qc : Array Value → State → Outcome → State → Prop} {XC : String → State → State → Prop} {free : Addr → Prop} {Ts : List Cond} {own C : String} {b : Addr} {As rest : List Value} {g : JFrame}
theorem vx_runVX {hh : List (Nat × Nat × Nat × Nat)} (S : CallFix p m c cc nL s args Ts own) (hM : vx_Met l y ws rm Pc Qc XC mc ms free) (cw : vx_CVW R s args own C index y bytes maxL ret hh ws rm mc ms n) (hp : PreV s H C b Pc As)
    (hg : g.method = m) (hn : As.length = n) (hsize : g.locals.size = nL) (hstack : g.stack = As.reverse ++ .ref b :: rest) (hW : 2 * g.monitorRoom + (rest.map fun v => v.category).sum ≤ 8) (hdg : decode cc g.pc = .ok (.invokevirtual index, 3)) (hf : cells + mc ≤ R.cells ∧ slots + ms ≤ R.slots) :
    vx_Run p l e R s m args below meth c H locs cells slots mc ms g rest (Qc (Value.ref b :: As).toArray) XC free := by
  obtain ⟨⟨hrc, hrs, hfr, hlo, hws, hcw⟩, hcode, hini, hy, hlen, hl, hin, hse⟩ := cw
  have hK : vx_Back l R p e below s args y 3 8 (PreOf R mc ms Pc) (PostOf Qc mc ms free) (vx_Post XC mc ms free) := vx_backW (hh := hh) (bytes := bytes) (maxL := maxL) (ret := ret) hM hp.1 hrc hrs hfr hlo hws hcw (fun a' U hW => word_at hW (Or.inl (by first | rfl | simp [Cond.onTables, Cond.keeps, Cond.steady])) hini)
  obtain ⟨hx, hb, hml, ho, -⟩ := S
  obtain ⟨-, ⟨cellB, hcB, hoB, hclB⟩, hPc⟩ := hp
  intro T hT X
  rcases vx_callVX X hx (C := C) (hh := hh) (bytes := bytes) (maxL := maxL) (ret := ret) ho hl hin hse hcode hy hK (by rw [hT]; exact hcB) hoB hclB hg (hsize.trans hml.symm) (argsL := As) (rest := rest) (fun sig h => hn.trans (hlen sig h)) hstack hW (by rw [hb]; exact hdg)
    (fun vm₁ hW₁ => ⟨hf.1, hf.2, hPc (T.setVm vm₁) hT hW₁⟩) with ⟨v, vm₁, ⟨U', l2, c2, s2⟩, hW₁, X', ⟨g', mk, t, L, e1, e2, hq, h1, hL, h2, h3⟩, st⟩ | ⟨q, vm₁, ⟨U', l2, c2, s2⟩, hW₁, X', ⟨g', mk, t, L, E, ce, e1, e2, hq, hce, hcv, hcl, h1, hL, h2, h3⟩, st⟩
  · dsimp only [Pt.U, Pt.locs, Pt.cells, Pt.slots] at X' e1 e2 h1 h2 h3 st
    subst h1; subst h2; subst h3
    exact Or.inl ⟨v, (T.setVm vm₁).calling g' mk (Value.ref b :: As).toArray, t, U', L, hT, X', hL, e1, e2, hq, st⟩
  · dsimp only [Pt.U, Pt.locs, Pt.cells, Pt.slots] at X' e1 e2 h1 h2 h3 st hcl
    subst h1; subst h2; subst h3
    exact Or.inr ⟨q, (T.setVm vm₁).calling g' mk (Value.ref b :: As).toArray, t, U', L, E, ce, hT, X', hL, e1, e2, hq, hce, hcv, vx_cls hW₁ hcl, st⟩
theorem vx_runSX {hh : List (Nat × Nat × Nat × Nat)} (S : CallFix p m c cc nL s args Ts own) (hM : vx_Met l y ws rm Pc Qc XC mc ms free) (cw : vx_CSW R s args own index y bytes maxL ret hh ws rm mc ms n) (hp : PreS s H Pc As)
    (hg : g.method = m) (hn : As.length = n) (hsize : g.locals.size = nL) (hstack : g.stack = As.reverse ++ rest) (hW : 2 * g.monitorRoom + (rest.map fun v => v.category).sum ≤ 8) (hdg : decode cc g.pc = .ok (.invokestatic index, 3)) (hf : cells + mc ≤ R.cells ∧ slots + ms ≤ R.slots) :
    vx_Run p l e R s m args below meth c H locs cells slots mc ms g rest (Qc As.toArray) XC free := by
  obtain ⟨⟨hrc, hrs, hfr, hlo, hws, hcw⟩, hcode, hini, hy, hlen, hl, hstt⟩ := cw
  have hK : vx_Back l R p e below s args y 3 8 (PreOf R mc ms Pc) (PostOf Qc mc ms free) (vx_Post XC mc ms free) := vx_backW (hh := hh) (bytes := bytes) (maxL := maxL) (ret := ret) hM hp.1 hrc hrs hfr hlo hws hcw (fun a' U hW => word_at hW (Or.inl (by first | rfl | simp [Cond.onTables, Cond.keeps, Cond.steady])) hini)
  obtain ⟨hx, hb, hml, ho, -⟩ := S
  intro T hT X
  rcases vx_callSX X hx (hh := hh) (bytes := bytes) (maxL := maxL) (ret := ret) ho hl hstt hini hcode hy hK hg (hsize.trans hml.symm) (argsL := As) (rest := rest) (fun sig h => hn.trans (hlen sig h)) hstack hW (by rw [hb]; exact hdg)
    (fun vm₁ hW₁ => ⟨hf.1, hf.2, hp.2 (T.setVm vm₁) hT hW₁⟩) with ⟨v, vm₁, ⟨U', l2, c2, s2⟩, hW₁, X', ⟨g', mk, t, L, e1, e2, hq, h1, hL, h2, h3⟩, st⟩ | ⟨q, vm₁, ⟨U', l2, c2, s2⟩, hW₁, X', ⟨g', mk, t, L, E, ce, e1, e2, hq, hce, hcv, hcl, h1, hL, h2, h3⟩, st⟩
  · dsimp only [Pt.U, Pt.locs, Pt.cells, Pt.slots] at X' e1 e2 h1 h2 h3 st
    subst h1; subst h2; subst h3
    exact Or.inl ⟨v, (T.setVm vm₁).calling g' mk As.toArray, t, U', L, hT, X', hL, e1, e2, hq, st⟩
  · dsimp only [Pt.U, Pt.locs, Pt.cells, Pt.slots] at X' e1 e2 h1 h2 h3 st hcl
    subst h1; subst h2; subst h3
    exact Or.inr ⟨q, (T.setVm vm₁).calling g' mk As.toArray, t, U', L, E, ce, hT, X', hL, e1, e2, hq, hce, hcv, vx_cls hW₁ hcl, st⟩
end
end VXH
theorem vx_ofWH {l : Launch} {y : MethodName} {ws ws' : List Cond} {rm : Room} {Pc : Array Value → State → Prop} {Qc : Array Value → State → Outcome → State → Prop} {XC : String → State → State → Prop} {mc ms : Nat} {free : Addr → Prop} {cc : ByteArray} {maxL : Nat} {ret : Option FieldType} {hh : List (Nat × Nat × Nat × Nat)}
    (hy : plainName y.cls = true) (hw : ws = Cond.codeWith y cc maxL ret hh :: ws')
    (body : ∀ p e s m args below meth c s₁, BodyLoose p l y (headSpec ws rm) cc maxL ret e s m args below meth c s₁ → c.maxLocals = maxL → Pc args s →
      W p l e (headSpec ws rm).room s m args below meth c s.heap [] 0 0 (vx_MQ below Qc XC args s mc ms free) (entryFrame m args maxL)) : vx_Met l y ws rm Pc Qc XC mc ms free := by
  refine MetFree.of_bodyS (code := cc) (maxLocals := maxL) (ret := ret) hy ?_ ?_
  · intro args s m h hn
    obtain ⟨m9, meth, c, hn9, h1, h2, h3, h4, -, h5, h6, -⟩ := Cond.codeWith_spec (atoms_spec (ws := ws) h _ (by rw [hw]; exact List.mem_cons_self))
    cases hn.symm.trans hn9
    exact ⟨meth, c, h1, h2, h3, h4, h5, h6⟩
  · intro p e s m args below meth c s₁ B hml hP _
    have hh0 : s₁.heap = s.heap := by rw [B.state]; rfl
    obtain ⟨t, a1, o, b1, b2, b3⟩ := body p e s m args below meth c s₁ B hml hP s₁ hh0 (Stand.of_body B)
    exact ⟨t, o, a1, b1, b2, b3⟩
/-! ===== END ===== -/
/-! ===== BEGIN what the machine throws by itself, no traces kept ===== -/
section VXM
set_option maxHeartbeats 1000000 in
/-- the machine throws cls with the message text, no traces kept: from its note over the frame g to 'throwing' over the same frame (follows the proofs of Stand.vmThrowsMessage, Shelf/KitTracedVmS.lean, and Stand.throwsMessageColdBareV, StandMessageColdV.lean, without the step out of the frame) -/
theorem vx_vmAt {p : Program} {l : Launch} {e : Env} {R : Room} {s : State} {m₀ : MethodId} {args : Array Value} {below : List Frame} {meth : Method} {c : Code} {W : State} {locs : List Loc} {cells slots : Nat}
    (X : Stand p l e R s m₀ args below meth c W locs cells slots) (hexec : p.tables.exec = Jvm.exec) (htr : e.platform.stackTraces = false) {cls : String} {names : List String} {text : String}
    (hcls : Bundle.fit cls = true) (hnames : ∀ n ∈ names, Bundle.fit n = true) (hsoe : (cls == "java/lang/StackOverflowError") = false) (hoom : (cls == "java/lang/OutOfMemoryError") = false)
    (h : ∀ a ∈ Bundle.messageArmAtoms cls names, a.before args s = true)
    (hlocs : ∀ x ∈ locs, ∀ cell, s.heap[x.base]? = some cell → cell.vm.isStatics = false)
    (htext : (text == notModelled) = false) (hlimit : ¬ (stringBytes (stringToUtf16 text)).size > e.platform.arrayLengthLimit) (hheap : ¬ (stringBytes (stringToUtf16 text)).size * componentBytes .byte > e.platform.maxHeapBytes)
    {g : JFrame} (hg : g.method = m₀) (hsize : g.locals.size = c.maxLocals)
    (hRframes : names.length + 4 < R.frames) (hRlocals : 2 * g.monitorRoom + (g.stack.map fun v => v.category).sum + 10240 ≤ R.locals) (hshort : 13 * names.length + 55 ≤ 10240)
    (hRcells : cells + 3 ≤ R.cells) (hRslots : slots + ((stringBytes (stringToUtf16 text)).size + 4 + 6) ≤ R.slots) (hlocks : meth.locks = false) :
    ∃ (S : State) (q : Addr) (ce : Cell), (∀ target, Steps p.tables e below ((S.setTop g).pushFrame (.throwing q)) target → Steps p.tables e below ((W.setTop g).pushFrame (.throwNew cls (some text) none)) target) ∧
      Stand p l e R s m₀ args below meth c S locs (cells + 3) (slots + ((stringBytes (stringToUtf16 text)).size + 4 + 6)) ∧ S.heap[q]? = some ce ∧ s.vm.findClass cls = some ce.cls ∧ ce.vm = .none := by
  have howns : e.platform.frameOwnsMonitors = true := by rw [X.admits.platform]
  have hfin : e.platform.finalization = false := by rw [X.admits.platform]
  have hpl : e.platform.magicAccessors = ({} : Platform).magicAccessors := by rw [X.admits.platform]
  have a : ∀ x, x ∈ Bundle.messageArmAtoms cls names → x.holds args s none s [] = true := fun x hx => h x hx
  obtain ⟨T, Z0, L, -, Y⟩ := ThrowableC.of_atoms (args := args) howns hfin hpl (fun x hx => h x (by simp [Bundle.messageArmAtoms, hx]))
  obtain ⟨Z, M, LZ, LM, hnZ⟩ := Init0T.ofS_atoms (args := args) hpl L Y (fun x hx => h x (by simp [Bundle.messageArmAtoms, hx]))
  obtain ⟨P1, Ps, hlen, L1, hL, hP1m, hlink1, hlink⟩ := Bundle.chainS (args := args) hpl hnZ names cls hcls hnames (fun x hx => h x (by simp [Bundle.messageArmAtoms, hx]))
  obtain ⟨Zs, LZs, hn4, hfitv, hfitc⟩ := StringT.of_atoms (args := args) (fun x hx => h x (by simp [Bundle.messageArmAtoms, hx]))
  have hfound : s.vm.findClass cls = some P1.m.cls := findClass_of_methodNamed hP1m
  obtain ⟨c1, kX, hc1, hk, hord, -, -, hn6⟩ := Cond.instantiable_spec (a (.instantiable cls 6) (by simp [Bundle.messageArmAtoms]))
  cases Option.some.inj (hc1.symm.trans hfound)
  have hinit := Cond.initialized_spec hfound hk (a (.initialized cls) (by simp [Bundle.messageArmAtoms]))
  have hctor : kX.findMethod "<init>" "(Ljava/lang/String;)V" = some P1.m.idx := findMethod_of_methodNamed hP1m hk
  have hsel0 : selectMethod e.platform s.vm P1.m.cls T.fill0 = .method T.fill0 := by
    obtain ⟨c2, r2, m2, q1, q2, q3, q4, -⟩ := Cond.selects_spec (a (.selects cls Bundle.tFill0 Bundle.tFill0) (by simp [Bundle.messageArmAtoms]))
    cases Option.some.inj (q1.symm.trans hfound)
    cases Option.some.inj (q2.symm.trans (State.methodFound?_of_named Y.fill0 (by decide)))
    cases Option.some.inj (q3.symm.trans Y.fill0)
    rw [Launch.admits_selectMethod X.admits]; exact q4
  have hselF : selectMethod e.platform s.vm P1.m.cls T.fill = .method T.fill := by
    obtain ⟨c2, r2, m2, q1, q2, q3, q4, -⟩ := Cond.selects_spec (a (.selects cls Bundle.tFill Bundle.tFill) (by simp [Bundle.messageArmAtoms]))
    cases Option.some.inj (q1.symm.trans hfound)
    cases Option.some.inj (q2.symm.trans (State.methodFound?_of_named Y.fill (by decide)))
    cases Option.some.inj (q3.symm.trans Y.fill)
    rw [Launch.admits_selectMethod X.admits]; exact q4
  obtain ⟨cellS0, hcS0, hiss⟩ := Y.statics
  obtain ⟨u0, hu0⟩ := Cond.staticRefV Y.unassigned L.unassignedStatic L.statics hcS0 hiss (a (.isRef (.static Bundle.tN "UNASSIGNED_STACK" Bundle.steD)) (by simp [Bundle.messageArmAtoms]))
  obtain ⟨sen, hsen⟩ := Cond.staticRefV Y.sentinel L.sentinelStatic L.statics hcS0 hiss (a (.isRef (.static Bundle.tN "SUPPRESSED_SENTINEL" Bundle.listD)) (by simp [Bundle.messageArmAtoms]))
  obtain ⟨ci198, i198, fB, hk198, hg198, ha198, hsB, -, hnB, htB, hffB⟩ := Cond.ownField (t := .object "java/lang/Object") Y.found L.cls (by decide +kernel) (a (.fieldLink Bundle.tN 198 Bundle.tN "backtrace" "Ljava/lang/Object;") (by simp [Bundle.messageArmAtoms])) (a (.lays Bundle.tN Bundle.tN "backtrace" "Ljava/lang/Object;") (by simp [Bundle.messageArmAtoms])) e.platform hpl
  obtain ⟨cellS, hcS', heS, -, hkeep⟩ := X.same.2.2.2.2.2 T.aS cellS0 hcS0
  have hcellS : W.heap[T.aS]? = some cellS := hcS'
  have hout' : ∀ i, (⟨T.aS, i⟩ : Loc) ∉ locs := fun i hmem => by
    have := hlocs _ hmem cellS0 hcS0
    rw [hiss] at this; cases this
  have hknownS : cellS.vm ≠ .unknown := by
    rw [heS]; intro hu
    rw [show cellS0.vm = .unknown from hu] at hiss
    cases hiss
  have hvU : cellS.slots[T.fUnassigned.slot]? = some u0.v := by rw [hkeep _ (hout' _)]; exact hu0
  have hvSen : cellS.slots[T.fSentinel.slot]? = some sen.v := by rw [hkeep _ (hout' _)]; exact hsen
  obtain ⟨iM, hffM⟩ := Y.msg
  obtain ⟨tyC, dC, hdC, hdnC⟩ := Cond.laysAt hfound hk Y.cause (a (.lays cls Bundle.tN "cause" "Ljava/lang/Throwable;") (by simp [Bundle.messageArmAtoms]))
  obtain ⟨tyS, dS, hdS, hdnS⟩ := Cond.laysAt hfound hk Y.stack (a (.lays cls Bundle.tN "stackTrace" Bundle.steD) (by simp [Bundle.messageArmAtoms]))
  obtain ⟨tyP, dP, hdP, hdnP⟩ := Cond.laysAt hfound hk Y.supp (a (.lays cls Bundle.tN "suppressedExceptions" Bundle.listD) (by simp [Bundle.messageArmAtoms]))
  obtain ⟨tyM, dM, hdM, hdnM⟩ := Cond.laysAt hfound hk hffM (a (.lays cls Bundle.tN "detailMessage" "Ljava/lang/String;") (by simp [Bundle.messageArmAtoms]))
  obtain ⟨tyB, dB, hdB, hdnB⟩ := Cond.laysAt hfound hk hffB (a (.lays cls Bundle.tN "backtrace" "Ljava/lang/Object;") (by simp [Bundle.messageArmAtoms]))
  have bC := Cond.laysApart hdB hdC hdnB hdnC (by rw [hnB, Y.causeName]; decide)
  have bS := Cond.laysApart hdB hdS hdnB hdnS (by rw [hnB, Y.stackName]; decide)
  have bP := Cond.laysApart hdB hdP hdnB hdnP (by rw [hnB, Y.suppName]; decide)
  have hbk : ((preparedCellV T.toThrowableT (freshCell P1.m.cls kX) (W.heap.size + 2) u0 sen).withEntry W.cur).slots[fB.slot]? = some .null := by
    have := fresh_default (c := P1.m.cls) tyB
    rw [htB] at this
    simpa [preparedCellV, Cell.setSlot, Cell.withEntry, Array.getElem?_setIfInBounds, bC, bS, bP, bC.symm, bS.symm, bP.symm, defaultValue] using this
  have tkC := Takes.of_laid (v := .ref (W.heap.size + 2)) hk hord tyC (by rw [Y.causeType]; rfl)
  have tkS := Takes.of_laid (v := u0.v) hk hord tyS (by rw [Y.stackType]; exact fits_refV_array _ u0)
  have tkP := Takes.of_laid (v := sen.v) hk hord tyP (by rw [Y.suppType]; exact fits_refV_object _ sen)
  have tkM := Takes.of_laid (v := .ref (W.heap.size + 1)) hk hord tyM (by rw [Y.msgType]; rfl)
  have hskip : SkipFacts T e.platform s (fun u => u) u0 ((preparedCellV T.toThrowableT (freshCell P1.m.cls kX) (W.heap.size + 2) u0 sen).withEntry W.cur) := ⟨{ ci198 := ci198, i198 := i198, fBack := fB }, ⟨hk198, hg198, ha198, hsB⟩, hbk, fun _ _ => rfl⟩
  have h0 : At W g.method c below := by rw [hg]; exact X.here
  obtain ⟨hbeyond, hfreeW⟩ := X.vmMayThrow hsize (.throwNew cls (some text) none) (fun f hf => by cases hf) rfl hRlocals
  have hfr' : W.frames.length + Ps.length + 4 < (e.platform.stackLimits W.me).1 := by have := X.framesAbove hRframes; omega
  have hwd' : (stackUse (.java g :: W.frames.tail)).2 + 13 * Ps.length + 55 ≤ (e.platform.stackLimits W.me).2 := by have := X.stackAbove hsize (K := 13 * Ps.length + 55) (by omega); omega
  have hslots : W.slotsUsed + (stringBytes (stringToUtf16 text)).size + Zs.kS.instanceTypes.size + kX.instanceTypes.size ≤ e.platform.maxSlots := by
    have := X.slotsAbove hRslots
    rw [hn4, hn6]
    omega
  obtain ⟨vm', hW', st⟩ := Steps.vmThrowsMessageColdByV p (s₀ := s) (S := W) (g := g) h0 hexec T L Z LZ M LM X.warmed (t := W.cur) rfl Zs LZs P1 L1 Ps hL hlink1 hlink hsoe hoom hfound hk hinit hord hctor
    (Launch.admits_hotImplicitExceptions X.admits) hbeyond hfreeW htext hlimit hheap (X.cellsAbove hRcells) hslots (hfitv _) (hfitc _)
    (Nn := fun u => u) heapOnly_id (fun _ _ => rfl) (fun _ => rfl) (fun u x y => setCell_twice _ _ _ _) (fun _ => Nat.le_refl _) (cN := ((preparedCellV T.toThrowableT (freshCell P1.m.cls kX) (W.heap.size + 2) u0 sen).withEntry W.cur))
    hsel0 hcellS hknownS hvU tkS (fun _ hu => hu) (fun _ hu => hu) rfl rfl rfl (by simp [preparedCellV, Cell.setSlot, Cell.withEntry]) hskip (fun _ _ hA hW _ hroom _ hrest => L.nativeOff p htr hA hW hroom hrest) hselF hvSen tkC tkP tkM Y.objLocals rfl hfr' hwd'
  rw [plainBareV_eq T.toThrowableT (W.heap.size + 2) u0 sen (.ref (W.heap.size + 1)) W.cur rfl rfl] at st
  obtain ⟨-, -, w3, w4, -, -, -⟩ := withThrown_facts e.platform W Zs text P1.m.cls kX
  have X3 := ((X.pushed (bytesOf Zs.cB (stringToUtf16 text))).pushed (stringAt Zs.cS Zs.kS Zs.fv Zs.fc (stringToUtf16 text) W.heap.size)).pushed (freshCell P1.m.cls kX)
  rw [← withString_eq] at X3
  have X4 := X3.noted hW'
  have ha : (W.heap.size + 2) < ((withThrown W Zs text P1.m.cls kX).setVm vm').heap.size := by show _ < (withThrown W Zs text P1.m.cls kX).heap.size; rw [w3]; omega
  have hcell : ((withThrown W Zs text P1.m.cls kX).setVm vm').heap[(W.heap.size + 2)]? = some (freshCell P1.m.cls kX) := w4
  have X5 := ((((X4.stored hcell T.fCause.slot (.ref (W.heap.size + 2))).storedAgain ha T.fStack.slot u0.v).storedAgain ha T.fSupp.slot sen.v).storedAgain ha T.fStack.slot u0.v).storedAgain ha T.fMsg.slot (.ref (W.heap.size + 1))
  obtain ⟨g₁, hfrM⟩ := X5.frames_eq
  have hU : ((((withThrown W Zs text P1.m.cls kX).setVm vm').setCell (W.heap.size + 2) (plainBareV T.toThrowableT (freshCell P1.m.cls kX) (W.heap.size + 2) u0 sen (.ref (W.heap.size + 1)))).setTop g).pushFrame (.throwing (W.heap.size + 2)) = (((withThrown W Zs text P1.m.cls kX).setVm vm').setCell (W.heap.size + 2) (plainBareV T.toThrowableT (freshCell P1.m.cls kX) (W.heap.size + 2) u0 sen (.ref (W.heap.size + 1)))).setFrames (.throwing (W.heap.size + 2) :: .java g :: below) := by
    rw [State.pushFrame, State.frames_setTop _ hfrM, State.setTop_of_frames _ hfrM, State.setFrames_setFrames]
  have b1 : (bytesOf Zs.cB (stringToUtf16 text)).slots.size = (stringBytes (stringToUtf16 text)).size := by
    rw [(Cell.writeAll_facts _ _).2.2]; simp [bytes0]
  have b2 : (stringAt Zs.cS Zs.kS Zs.fv Zs.fc (stringToUtf16 text) W.heap.size).slots.size = 4 := by simp [string0, Cell.setSlot, hn4]
  have b3 : (freshCell P1.m.cls kX).slots.size = 6 := by simp [hn6]
  rw [b1, b2, b3] at X5
  have e9 : slots + (stringBytes (stringToUtf16 text)).size + 4 + 6 = slots + ((stringBytes (stringToUtf16 text)).size + 4 + 6) := by omega
  rw [e9] at X5
  simp only [List.append_assoc, List.cons_append, List.nil_append] at X5
  refine ⟨((withThrown W Zs text P1.m.cls kX).setVm vm').setCell (W.heap.size + 2) (plainBareV T.toThrowableT (freshCell P1.m.cls kX) (W.heap.size + 2) u0 sen (.ref (W.heap.size + 1))), W.heap.size + 2, _, fun target ht => st _ (by rw [X.tail, ← hU]; exact ht),
    X5.forget (fun y hy => ?_), heapAt_setCell_self _ ha, hfound, rfl⟩
  simp only [List.mem_cons, List.not_mem_nil, or_false] at hy
  have hge : s.heap.size ≤ W.heap.size := X.same.2.1
  rcases hy with rfl | rfl | rfl | rfl | rfl <;> exact Nat.le_trans hge (Nat.le_add_right _ 2)
set_option maxHeartbeats 1000000 in
/-- the machine throws NullPointerException, no traces kept: from its note over the frame g to 'throwing' over the same frame (follows the proof of Stand.vmThrowsNpe, Shelf42/KT2.lean; throwsNpeColdBareVAt, Shelf42/NT91.lean, called) -/
theorem vx_npeAt {p : Program} {l : Launch} {e : Env} {R : Room} {s : State} {m₀ : MethodId} {args : Array Value} {below : List Frame} {meth : Method} {c : Code} {W : State} {locs : List Loc} {cells slots : Nat}
    (X : Stand p l e R s m₀ args below meth c W locs cells slots) (hexec : p.tables.exec = Jvm.exec) (htr : e.platform.stackTraces = false) {n : Nat}
    (h : ∀ a ∈ Bundle.npeArmAtoms n, a.before args s = true)
    (hlocs : ∀ x ∈ locs, ∀ cell, s.heap[x.base]? = some cell → cell.vm.isStatics = false)
    {g : JFrame} (hg : g.method = m₀) (hsize : g.locals.size = c.maxLocals)
    (hRframes : 7 < R.frames) (hRlocals : 2 * g.monitorRoom + (g.stack.map fun v => v.category).sum + 10240 ≤ R.locals)
    (hRcells : cells + 1 ≤ R.cells) (hRslots : slots + n ≤ R.slots) (hlocks : meth.locks = false) :
    ∃ (S : State) (q : Addr) (ce : Cell), (∀ target, Steps p.tables e below ((S.setTop g).pushFrame (.throwing q)) target → Steps p.tables e below ((W.setTop g).pushFrame (.throwNew "java/lang/NullPointerException" none none)) target) ∧
      Stand p l e R s m₀ args below meth c S locs (cells + 1) (slots + n) ∧ S.heap[q]? = some ce ∧ s.vm.findClass "java/lang/NullPointerException" = some ce.cls ∧ ce.vm = .none := by
  have howns : e.platform.frameOwnsMonitors = true := by rw [X.admits.platform]
  have hfin : e.platform.finalization = false := by rw [X.admits.platform]
  have hpl : e.platform.magicAccessors = ({} : Platform).magicAccessors := by rw [X.admits.platform]
  have hpl2 : e.platform.arrayCloneIsPublic = true := by rw [X.admits.platform]
  have a' : ∀ x, x ∈ Bundle.npeArmAtoms n → x.holds args s none s [] = true := fun x hx => h x hx
  obtain ⟨T, Z, L, LZ, Y⟩ := ThrowableC.of_atoms (args := args) howns hfin hpl (fun x hx => h x (by simp [Bundle.npeArmAtoms, hx]))
  obtain ⟨N, LN, hcN, hnNF, hordN, hffS⟩ := NpeC.of_atoms (args := args) hpl hpl2 L Y (fun x hx => h x (by simp [Bundle.npeArmAtoms, hx]))
  obtain ⟨P1, L1, hP1m, hP1s⟩ := PassC.of_atoms (args := args) (s := s) hpl (X := Bundle.nN) (Y := Bundle.rN) (by decide) (by decide) LibCode.NullPointerException.Init0.at_0 LibCode.NullPointerException.Init0.at_1 LibCode.NullPointerException.Init0.at_4 (fun x hx => h x (by simp [Bundle.npeArmAtoms, hx]))
  obtain ⟨PR, LR, hPRm, hPRs⟩ := PassC.of_atoms (args := args) (s := s) hpl (X := Bundle.rN) (Y := Bundle.eN) (by decide) (by decide) LibCode.RuntimeException.Init0.at_0 LibCode.RuntimeException.Init0.at_1 LibCode.RuntimeException.Init0.at_4 (fun x hx => h x (by simp [Bundle.npeArmAtoms, hx]))
  obtain ⟨PE, LEx, hPEm, hPEs⟩ := PassC.of_atoms (args := args) (s := s) hpl (X := Bundle.eN) (Y := Bundle.tN) (by decide) (by decide) LibCode.Exception.Init0.at_0 LibCode.Exception.Init0.at_1 LibCode.Exception.Init0.at_4 (fun x hx => h x (by simp [Bundle.npeArmAtoms, hx]))
  have hfound : s.vm.findClass Bundle.nN = some P1.m.cls := findClass_of_methodNamed hP1m
  have ecls : N.cN = P1.m.cls := Option.some.inj (hcN.symm.trans hfound)
  have hk : s.vm.classes[P1.m.cls]? = some N.kN := by rw [← ecls]; exact LN.cls
  have hinit := Cond.initialized_spec hfound hk (a' (.initialized Bundle.nN) (by simp [Bundle.npeArmAtoms]))
  have hctor : N.kN.findMethod "<init>" "()V" = some P1.m.idx := findMethod_of_methodNamed hP1m hk
  obtain ⟨c1, k1, hc1, hk1, -, -, -, hn⟩ := Cond.instantiable_spec (a' (.instantiable Bundle.nN n) (by simp [Bundle.npeArmAtoms]))
  cases Option.some.inj (hc1.symm.trans hfound)
  cases Option.some.inj (hk1.symm.trans hk)
  have hfsz : (freshCell P1.m.cls N.kN).slots.size = n := by simp [hn]
  have hlink1 : P1.sup = PR.m := Option.some.inj (hP1s.symm.trans hPRm)
  have hlinkR : PR.sup = PE.m := Option.some.inj (hPRs.symm.trans hPEm)
  have hlinkE : PE.sup = Z.m T.toThrowableT := Option.some.inj (hPEs.symm.trans Y.init0)
  have hLs : ∀ P, P ∈ [PR, PE] → P.Links0 e.platform s := fun P hP => by
    simp only [List.mem_cons, List.not_mem_nil, or_false] at hP
    rcases hP with rfl | rfl
    · exact LR
    · exact LEx
  have hsel0 : selectMethod e.platform s.vm P1.m.cls T.fill0 = .method T.fill0 := by
    obtain ⟨c2, r2, m2, q1, q2, q3, q4, -⟩ := Cond.selects_spec (a' (.selects Bundle.nN Bundle.tFill0 Bundle.tFill0) (by simp [Bundle.npeArmAtoms]))
    cases Option.some.inj (q1.symm.trans hfound)
    cases Option.some.inj (q2.symm.trans (State.methodFound?_of_named Y.fill0 (by decide)))
    cases Option.some.inj (q3.symm.trans Y.fill0)
    rw [Launch.admits_selectMethod X.admits]; exact q4
  have hselF : selectMethod e.platform s.vm P1.m.cls T.fill = .method N.fill := by
    obtain ⟨c2, r2, m2, q1, q2, q3, q4, -⟩ := Cond.selects_spec (a' (.selects Bundle.nN Bundle.tFill Bundle.nFill) (by simp [Bundle.npeArmAtoms]))
    cases Option.some.inj (q1.symm.trans hfound)
    cases Option.some.inj (q2.symm.trans (State.methodFound?_of_named Y.fill (by decide)))
    cases Option.some.inj (q3.symm.trans hnNF)
    rw [Launch.admits_selectMethod X.admits]; exact q4
  obtain ⟨cellS0, hcS0, hiss⟩ := Y.statics
  obtain ⟨u0, hu0⟩ := Cond.staticRefV Y.unassigned L.unassignedStatic L.statics hcS0 hiss (a' (.isRef (.static Bundle.tN "UNASSIGNED_STACK" Bundle.steD)) (by simp [Bundle.npeArmAtoms]))
  obtain ⟨sen, hsen⟩ := Cond.staticRefV Y.sentinel L.sentinelStatic L.statics hcS0 hiss (a' (.isRef (.static Bundle.tN "SUPPRESSED_SENTINEL" Bundle.listD)) (by simp [Bundle.npeArmAtoms]))
  obtain ⟨ci198, i198, fB, hk198, hg198, ha198, hsB, -, hnB, htB, hffB⟩ := Cond.ownField (t := .object "java/lang/Object") Y.found L.cls (by decide +kernel) (a' (.fieldLink Bundle.tN 198 Bundle.tN "backtrace" Bundle.objD) (by simp [Bundle.npeArmAtoms])) (a' (.lays Bundle.tN Bundle.tN "backtrace" Bundle.objD) (by simp [Bundle.npeArmAtoms])) e.platform hpl
  obtain ⟨cellS, hcS', heS, -, hkeep⟩ := X.same.2.2.2.2.2 T.aS cellS0 hcS0
  have hcellS : W.heap[T.aS]? = some cellS := hcS'
  have hout' : ∀ i, (⟨T.aS, i⟩ : Loc) ∉ locs := fun i hmem => by
    have := hlocs _ hmem cellS0 hcS0
    rw [hiss] at this; cases this
  have hknownS : cellS.vm ≠ .unknown := by
    rw [heS]; intro hu
    rw [show cellS0.vm = .unknown from hu] at hiss
    cases hiss
  have hvU : cellS.slots[T.fUnassigned.slot]? = some u0.v := by rw [hkeep _ (hout' _)]; exact hu0
  have hvSen : cellS.slots[T.fSentinel.slot]? = some sen.v := by rw [hkeep _ (hout' _)]; exact hsen
  obtain ⟨tyC, dC, hdC, hdnC⟩ := Cond.laysAt hfound hk Y.cause (a' (.lays Bundle.nN Bundle.tN "cause" "Ljava/lang/Throwable;") (by simp [Bundle.npeArmAtoms]))
  obtain ⟨tyS, dS, hdS, hdnS⟩ := Cond.laysAt hfound hk Y.stack (a' (.lays Bundle.nN Bundle.tN "stackTrace" Bundle.steD) (by simp [Bundle.npeArmAtoms]))
  obtain ⟨tyP, dP, hdP, hdnP⟩ := Cond.laysAt hfound hk Y.supp (a' (.lays Bundle.nN Bundle.tN "suppressedExceptions" Bundle.listD) (by simp [Bundle.npeArmAtoms]))
  obtain ⟨tyX, dX, hdX, hdnX⟩ := Cond.laysAt hfound hk hffS (a' (.lays Bundle.nN Bundle.nN "extendedMessageState" "I") (by simp [Bundle.npeArmAtoms, Bundle.npeAtoms]))
  obtain ⟨hnX, htX⟩ := State.fieldFound?_type hffS (t := .int) (by decide +kernel)
  have xC := Cond.laysApart hdC hdX hdnC hdnX (by rw [hnX, Y.causeName]; decide)
  have xS := Cond.laysApart hdS hdX hdnS hdnX (by rw [hnX, Y.stackName]; decide)
  have xP := Cond.laysApart hdP hdX hdnP hdnX (by rw [hnX, Y.suppName]; decide)
  have hv0 : (freshCell P1.m.cls N.kN).slots[N.fState.slot]? = some (.int 0) := by
    have := fresh_default (c := P1.m.cls) tyX
    rw [htX] at this; exact this
  obtain ⟨tyB, dB, hdB, hdnB⟩ := Cond.laysAt hfound hk hffB (a' (.lays Bundle.nN Bundle.tN "backtrace" Bundle.objD) (by simp [Bundle.npeArmAtoms]))
  have bC := Cond.laysApart hdB hdC hdnB hdnC (by rw [hnB, Y.causeName]; decide)
  have bS := Cond.laysApart hdB hdS hdnB hdnS (by rw [hnB, Y.stackName]; decide)
  have bP := Cond.laysApart hdB hdP hdnB hdnP (by rw [hnB, Y.suppName]; decide)
  have bX := Cond.laysApart hdB hdX hdnB hdnX (by rw [hnB, hnX]; decide)
  have hbk : ((npeCell N.toNpeT (preparedCellV T.toThrowableT (freshCell P1.m.cls N.kN) W.heap.size u0 sen) W.cur).withEntry W.cur).slots[fB.slot]? = some .null := by
    have := fresh_default (c := P1.m.cls) tyB
    rw [htB] at this
    simpa [npeCell, preparedCellV, Cell.setSlot, Cell.withEntry, Array.getElem?_setIfInBounds, bC, bS, bP, bX, bC.symm, bS.symm, bP.symm, bX.symm, defaultValue] using this
  have tkC := Takes.of_laid (v := .ref W.heap.size) hk hordN tyC (by rw [Y.causeType]; rfl)
  have tkS := Takes.of_laid (v := u0.v) hk hordN tyS (by rw [Y.stackType]; exact fits_refV_array _ u0)
  have tkP := Takes.of_laid (v := sen.v) hk hordN tyP (by rw [Y.suppType]; exact fits_refV_object _ sen)
  have tkX := Takes.of_laid (v := .int 1) hk hordN tyX (by rw [htX]; rfl)
  have hskip : SkipFacts T e.platform s (fun u => u) u0 ((npeCell N.toNpeT (preparedCellV T.toThrowableT (freshCell P1.m.cls N.kN) W.heap.size u0 sen) W.cur).withEntry W.cur) := ⟨{ ci198 := ci198, i198 := i198, fBack := fB }, ⟨hk198, hg198, ha198, hsB⟩, hbk, fun _ _ => rfl⟩
  obtain ⟨vm', X3, st, -⟩ := X.throwsNpeColdBareVAt hexec hg hsize T L Z LZ N LN P1 L1 [PR, PE] hLs hlink1 ⟨hlinkR, hlinkE, trivial⟩ hfound hk hinit hordN hctor hsel0 hselF hcellS hknownS hvU hvSen
    hv0 xC xS xP tkC tkS tkP tkX Y.objLocals hskip (fun _ _ hA hW _ hroom _ hrest => L.nativeOff p htr hA hW hroom hrest) (by simpa using hRframes) hRlocals (by simp) hRcells (by rw [hn]; exact hRslots)
  have hlt : W.heap.size < ((W.pushCell (freshCell P1.m.cls N.kN)).setVm vm').heap.size := by
    show W.heap.size < (W.pushCell (freshCell P1.m.cls N.kN)).heap.size
    rw [State.heap_size_pushCell]; omega
  rw [hfsz] at X3
  obtain ⟨g₁, hfrM⟩ := X3.frames_eq
  have hU : ((((W.pushCell (freshCell P1.m.cls N.kN)).setVm vm').setCell W.heap.size (npeBareV T.toThrowableT N.toNpeT (freshCell P1.m.cls N.kN) W.heap.size u0 sen)).setTop g).pushFrame (.throwing W.heap.size) = (((W.pushCell (freshCell P1.m.cls N.kN)).setVm vm').setCell W.heap.size (npeBareV T.toThrowableT N.toNpeT (freshCell P1.m.cls N.kN) W.heap.size u0 sen)).setFrames (.throwing W.heap.size :: .java g :: below) := by
    rw [State.pushFrame, State.frames_setTop _ hfrM, State.setTop_of_frames _ hfrM, State.setFrames_setFrames]
  refine ⟨_, W.heap.size, _, fun target ht => st.trans (by rw [← hU]; exact ht), X3.forget (fun y hy => ?_), heapAt_setCell_self _ hlt, hfound, rfl⟩
  simp only [List.mem_cons, List.not_mem_nil, or_false] at hy
  have hge : s.heap.size ≤ W.heap.size := X.same.2.1
  rcases hy with rfl | rfl | rfl | rfl | rfl <;> exact hge
/-- the words of a machine's NullPointerException, but the four that speak of the heap -/
def vx_atN (n : Nat) : List Cond := (Bundle.npeArmAtoms n).filter vx_no
/-- the words of a machine's throw with a message, but the four that speak of the heap -/
def vx_atM (X : String) (names : List String) : List Cond := (Bundle.messageArmAtoms X names).filter vx_no
section
variable {p : Program} {l : Launch} {e : Env} {R : Room} {s : State} {m : MethodId} {args : Array Value} {below : List Frame} {meth : Method} {c : Code} {H : Heap} {locs : List Loc} {cells slots : Nat}
/-- a frame seen from a rebased start, seen from the first start again -/
theorem vx_back9 {T S : State} {R' : Room} {k n : Nat} (X : Stand p l e R s m args below meth c T locs cells slots) (Y : Stand p l e R' ((T.setVm s.vm).setFrames (.invoking m args :: below)) m args below meth c T [] 0 0) (Z : Stand p l e R' ((T.setVm s.vm).setFrames (.invoking m args :: below)) m args below meth c S [] k n) :
    Stand p l e R s m args below meth c S locs (cells + k) (slots + n) := by
  have hW0 : s.WarmedH ((T.setVm s.vm).setFrames (.invoking m args :: below)).vm := State.WarmedH.refl s
  refine { admits := X.admits, cas := X.cas, clock := X.clock, frames := X.frames, room := X.room, hears := X.hears, method := X.method, code := X.code, here := Z.here, tail := Z.tail, warmed := State.WarmedH.trans hW0 Z.warmed, limits := Z.limits.trans (Y.limits.symm.trans X.limits), bytes := Z.bytes.trans (Y.bytes.symm.trans X.bytes), same := ?_ }
  obtain ⟨e1, e2⟩ := Z.same
  rw [State.setFrames_setFrames] at e1
  have h2 : (T.setVm s.vm).sameButNew (S.setVm s.vm) [] k n := ⟨e1, e2⟩
  have h3 := X.same.trans h2
  rw [List.append_nil] at h3
  exact h3
/-- from the machine's note that E is thrown here with this text -/
def vx_Note (p : Program) (l : Launch) (e : Env) (R : Room) (s : State) (m : MethodId) (args : Array Value) (below : List Frame) (meth : Method) (c : Code) (H : Heap) (locs : List Loc) (cells slots : Nat) (Q : State → Prop) (g : JFrame) (E text : String) : Prop :=
  ∀ T : State, T.heap = H → Stand p l e R s m args below meth c T locs cells slots → ∃ t, Steps p.tables e below ((T.setTop g).pushFrame (.throwNew E (some text) none)) t ∧ Q t
theorem vx_vm {pc : Nat} {ls : Array Slot} {rest : List Value} {Q : State → Prop} (hexec : p.tables.exec = Jvm.exec) (hl : l.stackTraces = false) {cls text : String} {names : List String} {nb : Nat} {A : Nat → Prop}
    (hcls : Bundle.fit cls = true) (hnames : ∀ n ∈ names, Bundle.fit n = true) (hsoe : (cls == "java/lang/StackOverflowError") = false) (hoom : (cls == "java/lang/OutOfMemoryError") = false)
    (hat : ∀ w ∈ vx_atM cls names, w.before args s = true) (hgood : ∀ w ∈ vx_atM cls names, vx_ot w = true)
    (hU : vx_Zq Bundle.tN "UNASSIGNED_STACK" Bundle.steD A s s.heap) (hN : vx_Zq Bundle.tN "SUPPRESSED_SENTINEL" Bundle.listD A s s.heap) (hS : va_S A s.heap H locs) (hsize : ls.size = c.maxLocals)
    (htext : (text == notModelled) = false) (hnb : (stringBytes (stringToUtf16 text)).size ≤ nb) (hnb1 : nb ≤ 1000)
    (hRframes : names.length + 4 < R.frames) (hRlocals : (rest.map fun v => v.category).sum + 10240 ≤ R.locals) (hshort : 13 * names.length + 55 ≤ 10240) (hRcells : cells + 3 ≤ R.cells) (hRslots : slots + (nb + 10) ≤ R.slots) (hlocks : meth.locks = false)
    (k : ∀ (H1 : Heap) (q9 : Addr) (ce : Cell), H.size ≤ H1.size → (∀ q : Nat, q < H.size → H1[q]? = H[q]?) → va_S A s.heap H1 locs → H1[q9]? = some ce → ce.vm = .none → s.vm.findClass cls = some ce.cls → vx_W p l e R s m args below meth c H1 locs (cells + 3) (slots + (nb + 10)) Q (F0 m pc ls rest) q9) :
    vx_Note p l e R s m args below meth c H locs cells slots Q (F0 m pc ls rest) cls text := by
  intro T hT X
  have htr : e.platform.stackTraces = false := (show e.platform.stackTraces = l.stackTraces by rw [X.admits.platform]).trans hl
  have Y := vx_rebase X (R' := { frames := R.frames, locals := R.locals, cells := 3, slots := nb + 10 }) (Nat.le_refl _) (Nat.le_refl _) hRcells hRslots
  have hhp : ((T.setVm s.vm).setFrames (.invoking m args :: below)).heap = H := hT
  have hW0 : s.WarmedH ((T.setVm s.vm).setFrames (.invoking m args :: below)).vm := State.WarmedH.refl s
  have hat' : ∀ w ∈ vx_atM cls names, w.before args ((T.setVm s.vm).setFrames (.invoking m args :: below)) = true := fun w hw => vx_ot_at hW0 rfl (hgood w hw) (hat w hw)
  have hU' : vx_Zq Bundle.tN "UNASSIGNED_STACK" Bundle.steD A ((T.setVm s.vm).setFrames (.invoking m args :: below)) ((T.setVm s.vm).setFrames (.invoking m args :: below)).heap := by rw [hhp]; exact vx_Zq.moved hW0.alike (hU.kept hS.2.1)
  have hN' : vx_Zq Bundle.tN "SUPPRESSED_SENTINEL" Bundle.listD A ((T.setVm s.vm).setFrames (.invoking m args :: below)) ((T.setVm s.vm).setFrames (.invoking m args :: below)).heap := by rw [hhp]; exact vx_Zq.moved hW0.alike (hN.kept hS.2.1)
  obtain ⟨S, q, ce, st, Z, hce, hcl', hv⟩ := vx_vmAt Y hexec htr (cls := cls) (names := names) (text := text) hcls hnames hsoe hoom (vx_own hat' (vx_isRefq hU'.1) (vx_isRefq hN'.1) hU'.2.word hN'.2.word) (fun x hx => nomatch hx) htext
    (by rw [Launch.admits_arrayLengthLimit X.admits]; omega) (by rw [Launch.admits_maxHeapBytes X.admits]; simp only [componentBytes]; omega)
    (g := F0 m pc ls rest) rfl hsize hRframes (by show 2 * 0 + (rest.map fun v => v.category).sum + 10240 ≤ R.locals; omega) hshort (by show 0 + 3 ≤ 3; omega) (by show 0 + (_ + 4 + 6) ≤ nb + 10; omega) hlocks
  obtain ⟨f1, f2⟩ := vx_frame Z.same
  have f1' : H.size ≤ S.heap.size := by rw [← hT]; exact f1
  have f2' : ∀ q : Nat, q < H.size → S.heap[q]? = H[q]? := fun q hq => by
    rw [← hT]
    exact f2 q (by rw [← hT] at hq; exact hq) (fun z hz => nomatch hz)
  have X5 := vx_back9 X Y Z
  have X6 : Stand p l e R s m args below meth c S locs (cells + 3) (slots + (nb + 10)) := { X5 with same := X5.same.mono (by omega) (by omega) }
  obtain ⟨t, a1, b1⟩ := k S.heap q ce f1' f2' ⟨Nat.le_trans hS.1 f1', fun q h1 h2 => (f2' q (Nat.lt_of_lt_of_le h1 hS.1)).trans (hS.2.1 q h1 h2), hS.2.2⟩ hce hv hcl' S rfl X6
  exact ⟨t, st t a1, b1⟩
/-- from the machine's note that NullPointerException is thrown here -/
def vx_NoteN (p : Program) (l : Launch) (e : Env) (R : Room) (s : State) (m : MethodId) (args : Array Value) (below : List Frame) (meth : Method) (c : Code) (H : Heap) (locs : List Loc) (cells slots : Nat) (Q : State → Prop) (g : JFrame) : Prop :=
  ∀ T : State, T.heap = H → Stand p l e R s m args below meth c T locs cells slots → ∃ t, Steps p.tables e below ((T.setTop g).pushFrame (.throwNew "java/lang/NullPointerException" none none)) t ∧ Q t
theorem vx_npe {pc : Nat} {ls : Array Slot} {rest : List Value} {Q : State → Prop} (hexec : p.tables.exec = Jvm.exec) (hl : l.stackTraces = false) {nb : Nat} {A : Nat → Prop}
    (hat : ∀ w ∈ vx_atN nb, w.before args s = true) (hgood : ∀ w ∈ vx_atN nb, vx_ot w = true)
    (hU : vx_Zq Bundle.tN "UNASSIGNED_STACK" Bundle.steD A s s.heap) (hN : vx_Zq Bundle.tN "SUPPRESSED_SENTINEL" Bundle.listD A s s.heap) (hS : va_S A s.heap H locs) (hsize : ls.size = c.maxLocals)
    (hRframes : 7 < R.frames) (hRlocals : (rest.map fun v => v.category).sum + 10240 ≤ R.locals) (hRcells : cells + 1 ≤ R.cells) (hRslots : slots + nb ≤ R.slots) (hlocks : meth.locks = false)
    (k : ∀ (H1 : Heap) (q9 : Addr) (ce : Cell), H.size ≤ H1.size → (∀ q : Nat, q < H.size → H1[q]? = H[q]?) → va_S A s.heap H1 locs → H1[q9]? = some ce → ce.vm = .none → s.vm.findClass "java/lang/NullPointerException" = some ce.cls → vx_W p l e R s m args below meth c H1 locs (cells + 1) (slots + nb) Q (F0 m pc ls rest) q9) :
    vx_NoteN p l e R s m args below meth c H locs cells slots Q (F0 m pc ls rest) := by
  intro T hT X
  have htr : e.platform.stackTraces = false := (show e.platform.stackTraces = l.stackTraces by rw [X.admits.platform]).trans hl
  have Y := vx_rebase X (R' := { frames := R.frames, locals := R.locals, cells := 1, slots := nb }) (Nat.le_refl _) (Nat.le_refl _) hRcells hRslots
  have hhp : ((T.setVm s.vm).setFrames (.invoking m args :: below)).heap = H := hT
  have hW0 : s.WarmedH ((T.setVm s.vm).setFrames (.invoking m args :: below)).vm := State.WarmedH.refl s
  have hat' : ∀ w ∈ vx_atN nb, w.before args ((T.setVm s.vm).setFrames (.invoking m args :: below)) = true := fun w hw => vx_ot_at hW0 rfl (hgood w hw) (hat w hw)
  have hU' : vx_Zq Bundle.tN "UNASSIGNED_STACK" Bundle.steD A ((T.setVm s.vm).setFrames (.invoking m args :: below)) ((T.setVm s.vm).setFrames (.invoking m args :: below)).heap := by rw [hhp]; exact vx_Zq.moved hW0.alike (hU.kept hS.2.1)
  have hN' : vx_Zq Bundle.tN "SUPPRESSED_SENTINEL" Bundle.listD A ((T.setVm s.vm).setFrames (.invoking m args :: below)) ((T.setVm s.vm).setFrames (.invoking m args :: below)).heap := by rw [hhp]; exact vx_Zq.moved hW0.alike (hN.kept hS.2.1)
  obtain ⟨S, q, ce, st, Z, hce, hcl', hv⟩ := vx_npeAt Y hexec htr (n := nb) (vx_own hat' (vx_isRefq hU'.1) (vx_isRefq hN'.1) hU'.2.word hN'.2.word) (fun x hx => nomatch hx)
    (g := F0 m pc ls rest) rfl hsize hRframes (by show 2 * 0 + (rest.map fun v => v.category).sum + 10240 ≤ R.locals; omega) (by show 0 + 1 ≤ 1; omega) (by show 0 + nb ≤ nb; omega) hlocks
  obtain ⟨f1, f2⟩ := vx_frame Z.same
  have f1' : H.size ≤ S.heap.size := by rw [← hT]; exact f1
  have f2' : ∀ q : Nat, q < H.size → S.heap[q]? = H[q]? := fun q hq => by
    rw [← hT]
    exact f2 q (by rw [← hT] at hq; exact hq) (fun z hz => nomatch hz)
  have X5 := vx_back9 X Y Z
  have X6 : Stand p l e R s m args below meth c S locs (cells + 1) (slots + nb) := { X5 with same := X5.same.mono (by omega) (by omega) }
  obtain ⟨t, a1, b1⟩ := k S.heap q ce f1' f2' ⟨Nat.le_trans hS.1 f1', fun q h1 h2 => (f2' q (Nat.lt_of_lt_of_le h1 hS.1)).trans (hS.2.1 q h1 h2), hS.2.2⟩ hce hv hcl' S rfl X6
  exact ⟨t, st t a1, b1⟩
variable {Q : State → Prop} {cc : ByteArray} {pc : Nat} {ls : Array Slot} {rest : List Value}
theorem vx_idivZ (hexec : p.tables.exec = Jvm.exec) (hb : c.code = cc) {a b : Int32} (h0 : b = 0) (d : decode cc pc = .ok (.idiv, 1)) (k : vx_Note p l e R s m args below meth c H locs cells slots Q (F0 m pc ls rest) "java/lang/ArithmeticException" "/ by zero") :
    W p l e R s m args below meth c H locs cells slots Q (F0 m pc ls (.int b :: .int a :: rest)) := by
  intro T hT X
  obtain ⟨t, st, q⟩ := k T hT X
  exact ⟨t, X.idivZero hexec (g := F0 m pc ls (.int b :: .int a :: rest)) rfl (a := a) (rest := rest) (by rw [h0]) (by rw [hb]; exact d) t st, q⟩
theorem vx_iremZ (hexec : p.tables.exec = Jvm.exec) (hb : c.code = cc) {a b : Int32} (h0 : b = 0) (d : decode cc pc = .ok (.irem, 1)) (k : vx_Note p l e R s m args below meth c H locs cells slots Q (F0 m pc ls rest) "java/lang/ArithmeticException" "/ by zero") :
    W p l e R s m args below meth c H locs cells slots Q (F0 m pc ls (.int b :: .int a :: rest)) := by
  intro T hT X
  obtain ⟨t, st, q⟩ := k T hT X
  exact ⟨t, X.iremZero hexec (g := F0 m pc ls (.int b :: .int a :: rest)) rfl (a := a) (rest := rest) (by rw [h0]) (by rw [hb]; exact d) t st, q⟩
theorem vx_ldivZ (hexec : p.tables.exec = Jvm.exec) (hb : c.code = cc) {a b : Int64} (h0 : b = 0) (d : decode cc pc = .ok (.ldiv, 1)) (k : vx_Note p l e R s m args below meth c H locs cells slots Q (F0 m pc ls rest) "java/lang/ArithmeticException" "/ by zero") :
    W p l e R s m args below meth c H locs cells slots Q (F0 m pc ls (.long b :: .long a :: rest)) := by
  intro T hT X
  obtain ⟨t, st, q⟩ := k T hT X
  exact ⟨t, X.ldivZero hexec (g := F0 m pc ls (.long b :: .long a :: rest)) rfl (a := a) (rest := rest) (by rw [h0]) (by rw [hb]; exact d) t st, q⟩
theorem vx_lremZ (hexec : p.tables.exec = Jvm.exec) (hb : c.code = cc) {a b : Int64} (h0 : b = 0) (d : decode cc pc = .ok (.lrem, 1)) (k : vx_Note p l e R s m args below meth c H locs cells slots Q (F0 m pc ls rest) "java/lang/ArithmeticException" "/ by zero") :
    W p l e R s m args below meth c H locs cells slots Q (F0 m pc ls (.long b :: .long a :: rest)) := by
  intro T hT X
  obtain ⟨t, st, q⟩ := k T hT X
  exact ⟨t, X.lremZero hexec (g := F0 m pc ls (.long b :: .long a :: rest)) rfl (a := a) (rest := rest) (by rw [h0]) (by rw [hb]; exact d) t st, q⟩
theorem vx_ialdZ {D : va_G} {cl : List vw_C} {ws : va_W} {tys : List (ClassId × FieldType)} {a : Nat} (hexec : p.tables.exec = Jvm.exec) (hb : c.code = cc) (hK : va_K D cl tys s) (hP : va_P D cl ws H) (q0 t0 : Nat) {cA : ClassId} {n : Nat} {f : Nat → Int32} (ha : ws[q0]? = some (a, .inl (cA, n, .inl f))) (ht : tys[t0]? = some (cA, .int)) {i : Int32} (hout : ¬ vp_in i n) (hdg : decode cc pc = .ok (.iaload, 1))
    (k : ∀ tx : String, tx = (toString "Index " ++ toString i ++ toString " out of bounds for length " ++ toString n : String) → vx_Note p l e R s m args below meth c H locs cells slots Q (F0 m pc ls rest) "java/lang/ArrayIndexOutOfBoundsException" tx) : W p l e R s m args below meth c H locs cells slots Q (F0 m pc ls (.int i :: .ref a :: rest)) := by
  intro T hT X
  obtain ⟨t, st, q⟩ := k _ rfl T hT X
  refine ⟨t, ?_, q⟩
  have h1 := X.ialoadOut hexec (by rw [hT]; exact hP q0 _ ha) ((hK.2 t0 _ ht).1 n (fun j => .int (f j))) (j := i) (by show (i < 0 ∨ (arrV _ _ _).slots.size ≤ _); rw [arrV_size]; exact Classical.byContradiction hout) (g := F0 m pc ls (.int i :: .ref a :: rest)) rfl (rest := rest) rfl (by rw [hb]; exact hdg) t
  simp only [arrV_size] at h1
  exact h1 st
theorem vx_iastZ {D : va_G} {cl : List vw_C} {ws : va_W} {tys : List (ClassId × FieldType)} {a : Nat} (hexec : p.tables.exec = Jvm.exec) (hb : c.code = cc) (hK : va_K D cl tys s) (hP : va_P D cl ws H) (q0 t0 : Nat) {cA : ClassId} {n : Nat} {f : Nat → Int32} (ha : ws[q0]? = some (a, .inl (cA, n, .inl f))) (ht : tys[t0]? = some (cA, .int)) {i : Int32} {x : Int32} (hout : ¬ vp_in i n) (hdg : decode cc pc = .ok (.iastore, 1))
    (k : ∀ tx : String, tx = (toString "Index " ++ toString i ++ toString " out of bounds for length " ++ toString n : String) → vx_Note p l e R s m args below meth c H locs cells slots Q (F0 m pc ls rest) "java/lang/ArrayIndexOutOfBoundsException" tx) : W p l e R s m args below meth c H locs cells slots Q (F0 m pc ls (.int x :: .int i :: .ref a :: rest)) := by
  intro T hT X
  obtain ⟨t, st, q⟩ := k _ rfl T hT X
  refine ⟨t, ?_, q⟩
  have h1 := X.iastoreOut hexec (by rw [hT]; exact hP q0 _ ha) ((hK.2 t0 _ ht).1 n (fun j => .int (f j))) (j := i) (by show (i < 0 ∨ (arrV _ _ _).slots.size ≤ _); rw [arrV_size]; exact Classical.byContradiction hout) (g := F0 m pc ls (.int x :: .int i :: .ref a :: rest)) rfl (rest := rest) rfl (by rw [hb]; exact hdg) t
  simp only [arrV_size] at h1
  exact h1 st
theorem vx_baldZ {D : va_G} {cl : List vw_C} {ws : va_W} {tys : List (ClassId × FieldType)} {a : Nat} (hexec : p.tables.exec = Jvm.exec) (hb : c.code = cc) (hK : va_K D cl tys s) (hP : va_P D cl ws H) (q0 t0 : Nat) {cA : ClassId} {n : Nat} {f : Nat → Int32} (ha : ws[q0]? = some (a, .inl (cA, n, .inl f))) (ht : tys[t0]? = some (cA, .byte)) {i : Int32} (hout : ¬ vp_in i n) (hdg : decode cc pc = .ok (.baload, 1))
    (k : ∀ tx : String, tx = (toString "Index " ++ toString i ++ toString " out of bounds for length " ++ toString n : String) → vx_Note p l e R s m args below meth c H locs cells slots Q (F0 m pc ls rest) "java/lang/ArrayIndexOutOfBoundsException" tx) : W p l e R s m args below meth c H locs cells slots Q (F0 m pc ls (.int i :: .ref a :: rest)) := by
  intro T hT X
  obtain ⟨t, st, q⟩ := k _ rfl T hT X
  refine ⟨t, ?_, q⟩
  have h1 := X.baloadOut hexec (by rw [hT]; exact hP q0 _ ha) ((hK.2 t0 _ ht).1 n (fun j => .int (f j))) (j := i) (by show (i < 0 ∨ (arrV _ _ _).slots.size ≤ _); rw [arrV_size]; exact Classical.byContradiction hout) (g := F0 m pc ls (.int i :: .ref a :: rest)) rfl (rest := rest) rfl (by rw [hb]; exact hdg) t
  simp only [arrV_size] at h1
  exact h1 st
theorem vx_bastZ {D : va_G} {cl : List vw_C} {ws : va_W} {tys : List (ClassId × FieldType)} {a : Nat} (hexec : p.tables.exec = Jvm.exec) (hb : c.code = cc) (hK : va_K D cl tys s) (hP : va_P D cl ws H) (q0 t0 : Nat) {cA : ClassId} {n : Nat} {f : Nat → Int32} (ha : ws[q0]? = some (a, .inl (cA, n, .inl f))) (ht : tys[t0]? = some (cA, .byte)) {i : Int32} {x : Int32} (hout : ¬ vp_in i n) (hdg : decode cc pc = .ok (.bastore, 1))
    (k : ∀ tx : String, tx = (toString "Index " ++ toString i ++ toString " out of bounds for length " ++ toString n : String) → vx_Note p l e R s m args below meth c H locs cells slots Q (F0 m pc ls rest) "java/lang/ArrayIndexOutOfBoundsException" tx) : W p l e R s m args below meth c H locs cells slots Q (F0 m pc ls (.int x :: .int i :: .ref a :: rest)) := by
  intro T hT X
  obtain ⟨t, st, q⟩ := k _ rfl T hT X
  refine ⟨t, ?_, q⟩
  have h1 := X.bastoreOut hexec (by rw [hT]; exact hP q0 _ ha) ((hK.2 t0 _ ht).1 n (fun j => .int (f j))) (j := i) (by show (i < 0 ∨ (arrV _ _ _).slots.size ≤ _); rw [arrV_size]; exact Classical.byContradiction hout) (g := F0 m pc ls (.int x :: .int i :: .ref a :: rest)) rfl (rest := rest) rfl (by rw [hb]; exact hdg) t
  simp only [arrV_size] at h1
  exact h1 st
theorem vx_zaldZ {D : va_G} {cl : List vw_C} {ws : va_W} {tys : List (ClassId × FieldType)} {a : Nat} (hexec : p.tables.exec = Jvm.exec) (hb : c.code = cc) (hK : va_K D cl tys s) (hP : va_P D cl ws H) (q0 t0 : Nat) {cA : ClassId} {n : Nat} {f : Nat → Int32} (ha : ws[q0]? = some (a, .inl (cA, n, .inl f))) (ht : tys[t0]? = some (cA, .boolean)) {i : Int32} (hout : ¬ vp_in i n) (hdg : decode cc pc = .ok (.baload, 1))
    (k : ∀ tx : String, tx = (toString "Index " ++ toString i ++ toString " out of bounds for length " ++ toString n : String) → vx_Note p l e R s m args below meth c H locs cells slots Q (F0 m pc ls rest) "java/lang/ArrayIndexOutOfBoundsException" tx) : W p l e R s m args below meth c H locs cells slots Q (F0 m pc ls (.int i :: .ref a :: rest)) := by
  intro T hT X
  obtain ⟨t, st, q⟩ := k _ rfl T hT X
  refine ⟨t, ?_, q⟩
  have h1 := X.baloadOut hexec (by rw [hT]; exact hP q0 _ ha) ((hK.2 t0 _ ht).1 n (fun j => .int (f j))) (j := i) (by show (i < 0 ∨ (arrV _ _ _).slots.size ≤ _); rw [arrV_size]; exact Classical.byContradiction hout) (g := F0 m pc ls (.int i :: .ref a :: rest)) rfl (rest := rest) rfl (by rw [hb]; exact hdg) t
  simp only [arrV_size] at h1
  exact h1 st
theorem vx_zastZ {D : va_G} {cl : List vw_C} {ws : va_W} {tys : List (ClassId × FieldType)} {a : Nat} (hexec : p.tables.exec = Jvm.exec) (hb : c.code = cc) (hK : va_K D cl tys s) (hP : va_P D cl ws H) (q0 t0 : Nat) {cA : ClassId} {n : Nat} {f : Nat → Int32} (ha : ws[q0]? = some (a, .inl (cA, n, .inl f))) (ht : tys[t0]? = some (cA, .boolean)) {i : Int32} {x : Int32} (hout : ¬ vp_in i n) (hdg : decode cc pc = .ok (.bastore, 1))
    (k : ∀ tx : String, tx = (toString "Index " ++ toString i ++ toString " out of bounds for length " ++ toString n : String) → vx_Note p l e R s m args below meth c H locs cells slots Q (F0 m pc ls rest) "java/lang/ArrayIndexOutOfBoundsException" tx) : W p l e R s m args below meth c H locs cells slots Q (F0 m pc ls (.int x :: .int i :: .ref a :: rest)) := by
  intro T hT X
  obtain ⟨t, st, q⟩ := k _ rfl T hT X
  refine ⟨t, ?_, q⟩
  have h1 := X.bastoreOut hexec (by rw [hT]; exact hP q0 _ ha) ((hK.2 t0 _ ht).1 n (fun j => .int (f j))) (j := i) (by show (i < 0 ∨ (arrV _ _ _).slots.size ≤ _); rw [arrV_size]; exact Classical.byContradiction hout) (g := F0 m pc ls (.int x :: .int i :: .ref a :: rest)) rfl (rest := rest) rfl (by rw [hb]; exact hdg) t
  simp only [arrV_size] at h1
  exact h1 st
theorem vx_caldZ {D : va_G} {cl : List vw_C} {ws : va_W} {tys : List (ClassId × FieldType)} {a : Nat} (hexec : p.tables.exec = Jvm.exec) (hb : c.code = cc) (hK : va_K D cl tys s) (hP : va_P D cl ws H) (q0 t0 : Nat) {cA : ClassId} {n : Nat} {f : Nat → Int32} (ha : ws[q0]? = some (a, .inl (cA, n, .inl f))) (ht : tys[t0]? = some (cA, .char)) {i : Int32} (hout : ¬ vp_in i n) (hdg : decode cc pc = .ok (.caload, 1))
    (k : ∀ tx : String, tx = (toString "Index " ++ toString i ++ toString " out of bounds for length " ++ toString n : String) → vx_Note p l e R s m args below meth c H locs cells slots Q (F0 m pc ls rest) "java/lang/ArrayIndexOutOfBoundsException" tx) : W p l e R s m args below meth c H locs cells slots Q (F0 m pc ls (.int i :: .ref a :: rest)) := by
  intro T hT X
  obtain ⟨t, st, q⟩ := k _ rfl T hT X
  refine ⟨t, ?_, q⟩
  have h1 := X.caloadOut hexec (by rw [hT]; exact hP q0 _ ha) ((hK.2 t0 _ ht).1 n (fun j => .int (f j))) (j := i) (by show (i < 0 ∨ (arrV _ _ _).slots.size ≤ _); rw [arrV_size]; exact Classical.byContradiction hout) (g := F0 m pc ls (.int i :: .ref a :: rest)) rfl (rest := rest) rfl (by rw [hb]; exact hdg) t
  simp only [arrV_size] at h1
  exact h1 st
theorem vx_castZ {D : va_G} {cl : List vw_C} {ws : va_W} {tys : List (ClassId × FieldType)} {a : Nat} (hexec : p.tables.exec = Jvm.exec) (hb : c.code = cc) (hK : va_K D cl tys s) (hP : va_P D cl ws H) (q0 t0 : Nat) {cA : ClassId} {n : Nat} {f : Nat → Int32} (ha : ws[q0]? = some (a, .inl (cA, n, .inl f))) (ht : tys[t0]? = some (cA, .char)) {i : Int32} {x : Int32} (hout : ¬ vp_in i n) (hdg : decode cc pc = .ok (.castore, 1))
    (k : ∀ tx : String, tx = (toString "Index " ++ toString i ++ toString " out of bounds for length " ++ toString n : String) → vx_Note p l e R s m args below meth c H locs cells slots Q (F0 m pc ls rest) "java/lang/ArrayIndexOutOfBoundsException" tx) : W p l e R s m args below meth c H locs cells slots Q (F0 m pc ls (.int x :: .int i :: .ref a :: rest)) := by
  intro T hT X
  obtain ⟨t, st, q⟩ := k _ rfl T hT X
  refine ⟨t, ?_, q⟩
  have h1 := X.castoreOut hexec (by rw [hT]; exact hP q0 _ ha) ((hK.2 t0 _ ht).1 n (fun j => .int (f j))) (j := i) (by show (i < 0 ∨ (arrV _ _ _).slots.size ≤ _); rw [arrV_size]; exact Classical.byContradiction hout) (g := F0 m pc ls (.int x :: .int i :: .ref a :: rest)) rfl (rest := rest) rfl (by rw [hb]; exact hdg) t
  simp only [arrV_size] at h1
  exact h1 st
theorem vx_saldZ {D : va_G} {cl : List vw_C} {ws : va_W} {tys : List (ClassId × FieldType)} {a : Nat} (hexec : p.tables.exec = Jvm.exec) (hb : c.code = cc) (hK : va_K D cl tys s) (hP : va_P D cl ws H) (q0 t0 : Nat) {cA : ClassId} {n : Nat} {f : Nat → Int32} (ha : ws[q0]? = some (a, .inl (cA, n, .inl f))) (ht : tys[t0]? = some (cA, .short)) {i : Int32} (hout : ¬ vp_in i n) (hdg : decode cc pc = .ok (.saload, 1))
    (k : ∀ tx : String, tx = (toString "Index " ++ toString i ++ toString " out of bounds for length " ++ toString n : String) → vx_Note p l e R s m args below meth c H locs cells slots Q (F0 m pc ls rest) "java/lang/ArrayIndexOutOfBoundsException" tx) : W p l e R s m args below meth c H locs cells slots Q (F0 m pc ls (.int i :: .ref a :: rest)) := by
  intro T hT X
  obtain ⟨t, st, q⟩ := k _ rfl T hT X
  refine ⟨t, ?_, q⟩
  have h1 := X.saloadOut hexec (by rw [hT]; exact hP q0 _ ha) ((hK.2 t0 _ ht).1 n (fun j => .int (f j))) (j := i) (by show (i < 0 ∨ (arrV _ _ _).slots.size ≤ _); rw [arrV_size]; exact Classical.byContradiction hout) (g := F0 m pc ls (.int i :: .ref a :: rest)) rfl (rest := rest) rfl (by rw [hb]; exact hdg) t
  simp only [arrV_size] at h1
  exact h1 st
theorem vx_sastZ {D : va_G} {cl : List vw_C} {ws : va_W} {tys : List (ClassId × FieldType)} {a : Nat} (hexec : p.tables.exec = Jvm.exec) (hb : c.code = cc) (hK : va_K D cl tys s) (hP : va_P D cl ws H) (q0 t0 : Nat) {cA : ClassId} {n : Nat} {f : Nat → Int32} (ha : ws[q0]? = some (a, .inl (cA, n, .inl f))) (ht : tys[t0]? = some (cA, .short)) {i : Int32} {x : Int32} (hout : ¬ vp_in i n) (hdg : decode cc pc = .ok (.sastore, 1))
    (k : ∀ tx : String, tx = (toString "Index " ++ toString i ++ toString " out of bounds for length " ++ toString n : String) → vx_Note p l e R s m args below meth c H locs cells slots Q (F0 m pc ls rest) "java/lang/ArrayIndexOutOfBoundsException" tx) : W p l e R s m args below meth c H locs cells slots Q (F0 m pc ls (.int x :: .int i :: .ref a :: rest)) := by
  intro T hT X
  obtain ⟨t, st, q⟩ := k _ rfl T hT X
  refine ⟨t, ?_, q⟩
  have h1 := X.sastoreOut hexec (by rw [hT]; exact hP q0 _ ha) ((hK.2 t0 _ ht).1 n (fun j => .int (f j))) (j := i) (by show (i < 0 ∨ (arrV _ _ _).slots.size ≤ _); rw [arrV_size]; exact Classical.byContradiction hout) (g := F0 m pc ls (.int x :: .int i :: .ref a :: rest)) rfl (rest := rest) rfl (by rw [hb]; exact hdg) t
  simp only [arrV_size] at h1
  exact h1 st
theorem vx_laldZ {D : va_G} {cl : List vw_C} {ws : va_W} {tys : List (ClassId × FieldType)} {a : Nat} (hexec : p.tables.exec = Jvm.exec) (hb : c.code = cc) (hK : va_K D cl tys s) (hP : va_P D cl ws H) (q0 t0 : Nat) {cA : ClassId} {n : Nat} {f : Nat → Int64} (ha : ws[q0]? = some (a, .inl (cA, n, .inr (.inl f)))) (ht : tys[t0]? = some (cA, .long)) {i : Int32} (hout : ¬ vp_in i n) (hdg : decode cc pc = .ok (.laload, 1))
    (k : ∀ tx : String, tx = (toString "Index " ++ toString i ++ toString " out of bounds for length " ++ toString n : String) → vx_Note p l e R s m args below meth c H locs cells slots Q (F0 m pc ls rest) "java/lang/ArrayIndexOutOfBoundsException" tx) : W p l e R s m args below meth c H locs cells slots Q (F0 m pc ls (.int i :: .ref a :: rest)) := by
  intro T hT X
  obtain ⟨t, st, q⟩ := k _ rfl T hT X
  refine ⟨t, ?_, q⟩
  have h1 := X.laloadOut hexec (by rw [hT]; exact hP q0 _ ha) ((hK.2 t0 _ ht).1 n (fun j => .long (f j))) (j := i) (by show (i < 0 ∨ (arrV _ _ _).slots.size ≤ _); rw [arrV_size]; exact Classical.byContradiction hout) (g := F0 m pc ls (.int i :: .ref a :: rest)) rfl (rest := rest) rfl (by rw [hb]; exact hdg) t
  simp only [arrV_size] at h1
  exact h1 st
theorem vx_lastZ {D : va_G} {cl : List vw_C} {ws : va_W} {tys : List (ClassId × FieldType)} {a : Nat} (hexec : p.tables.exec = Jvm.exec) (hb : c.code = cc) (hK : va_K D cl tys s) (hP : va_P D cl ws H) (q0 t0 : Nat) {cA : ClassId} {n : Nat} {f : Nat → Int64} (ha : ws[q0]? = some (a, .inl (cA, n, .inr (.inl f)))) (ht : tys[t0]? = some (cA, .long)) {i : Int32} {x : Int64} (hout : ¬ vp_in i n) (hdg : decode cc pc = .ok (.lastore, 1))
    (k : ∀ tx : String, tx = (toString "Index " ++ toString i ++ toString " out of bounds for length " ++ toString n : String) → vx_Note p l e R s m args below meth c H locs cells slots Q (F0 m pc ls rest) "java/lang/ArrayIndexOutOfBoundsException" tx) : W p l e R s m args below meth c H locs cells slots Q (F0 m pc ls (.long x :: .int i :: .ref a :: rest)) := by
  intro T hT X
  obtain ⟨t, st, q⟩ := k _ rfl T hT X
  refine ⟨t, ?_, q⟩
  have h1 := X.lastoreOut hexec (by rw [hT]; exact hP q0 _ ha) ((hK.2 t0 _ ht).1 n (fun j => .long (f j))) (j := i) (by show (i < 0 ∨ (arrV _ _ _).slots.size ≤ _); rw [arrV_size]; exact Classical.byContradiction hout) (g := F0 m pc ls (.long x :: .int i :: .ref a :: rest)) rfl (rest := rest) rfl (by rw [hb]; exact hdg) t
  simp only [arrV_size] at h1
  exact h1 st
theorem vx_faldZ {D : va_G} {cl : List vw_C} {ws : va_W} {tys : List (ClassId × FieldType)} {a : Nat} (hexec : p.tables.exec = Jvm.exec) (hb : c.code = cc) (hK : va_K D cl tys s) (hP : va_P D cl ws H) (q0 t0 : Nat) {cA : ClassId} {n : Nat} {f : Nat → UInt32} (ha : ws[q0]? = some (a, .inl (cA, n, .inr (.inr (.inl f))))) (ht : tys[t0]? = some (cA, .float)) {i : Int32} (hout : ¬ vp_in i n) (hdg : decode cc pc = .ok (.faload, 1))
    (k : ∀ tx : String, tx = (toString "Index " ++ toString i ++ toString " out of bounds for length " ++ toString n : String) → vx_Note p l e R s m args below meth c H locs cells slots Q (F0 m pc ls rest) "java/lang/ArrayIndexOutOfBoundsException" tx) : W p l e R s m args below meth c H locs cells slots Q (F0 m pc ls (.int i :: .ref a :: rest)) := by
  intro T hT X
  obtain ⟨t, st, q⟩ := k _ rfl T hT X
  refine ⟨t, ?_, q⟩
  have h1 := X.faloadOut hexec (by rw [hT]; exact hP q0 _ ha) ((hK.2 t0 _ ht).1 n (fun j => .float (f j))) (j := i) (by show (i < 0 ∨ (arrV _ _ _).slots.size ≤ _); rw [arrV_size]; exact Classical.byContradiction hout) (g := F0 m pc ls (.int i :: .ref a :: rest)) rfl (rest := rest) rfl (by rw [hb]; exact hdg) t
  simp only [arrV_size] at h1
  exact h1 st
theorem vx_fastZ {D : va_G} {cl : List vw_C} {ws : va_W} {tys : List (ClassId × FieldType)} {a : Nat} (hexec : p.tables.exec = Jvm.exec) (hb : c.code = cc) (hK : va_K D cl tys s) (hP : va_P D cl ws H) (q0 t0 : Nat) {cA : ClassId} {n : Nat} {f : Nat → UInt32} (ha : ws[q0]? = some (a, .inl (cA, n, .inr (.inr (.inl f))))) (ht : tys[t0]? = some (cA, .float)) {i : Int32} {x : UInt32} (hout : ¬ vp_in i n) (hdg : decode cc pc = .ok (.fastore, 1))
    (k : ∀ tx : String, tx = (toString "Index " ++ toString i ++ toString " out of bounds for length " ++ toString n : String) → vx_Note p l e R s m args below meth c H locs cells slots Q (F0 m pc ls rest) "java/lang/ArrayIndexOutOfBoundsException" tx) : W p l e R s m args below meth c H locs cells slots Q (F0 m pc ls (.float x :: .int i :: .ref a :: rest)) := by
  intro T hT X
  obtain ⟨t, st, q⟩ := k _ rfl T hT X
  refine ⟨t, ?_, q⟩
  have h1 := X.fastoreOut hexec (by rw [hT]; exact hP q0 _ ha) ((hK.2 t0 _ ht).1 n (fun j => .float (f j))) (j := i) (by show (i < 0 ∨ (arrV _ _ _).slots.size ≤ _); rw [arrV_size]; exact Classical.byContradiction hout) (g := F0 m pc ls (.float x :: .int i :: .ref a :: rest)) rfl (rest := rest) rfl (by rw [hb]; exact hdg) t
  simp only [arrV_size] at h1
  exact h1 st
theorem vx_daldZ {D : va_G} {cl : List vw_C} {ws : va_W} {tys : List (ClassId × FieldType)} {a : Nat} (hexec : p.tables.exec = Jvm.exec) (hb : c.code = cc) (hK : va_K D cl tys s) (hP : va_P D cl ws H) (q0 t0 : Nat) {cA : ClassId} {n : Nat} {f : Nat → UInt64} (ha : ws[q0]? = some (a, .inl (cA, n, .inr (.inr (.inr (.inl f)))))) (ht : tys[t0]? = some (cA, .double)) {i : Int32} (hout : ¬ vp_in i n) (hdg : decode cc pc = .ok (.daload, 1))
    (k : ∀ tx : String, tx = (toString "Index " ++ toString i ++ toString " out of bounds for length " ++ toString n : String) → vx_Note p l e R s m args below meth c H locs cells slots Q (F0 m pc ls rest) "java/lang/ArrayIndexOutOfBoundsException" tx) : W p l e R s m args below meth c H locs cells slots Q (F0 m pc ls (.int i :: .ref a :: rest)) := by
  intro T hT X
  obtain ⟨t, st, q⟩ := k _ rfl T hT X
  refine ⟨t, ?_, q⟩
  have h1 := X.daloadOut hexec (by rw [hT]; exact hP q0 _ ha) ((hK.2 t0 _ ht).1 n (fun j => .double (f j))) (j := i) (by show (i < 0 ∨ (arrV _ _ _).slots.size ≤ _); rw [arrV_size]; exact Classical.byContradiction hout) (g := F0 m pc ls (.int i :: .ref a :: rest)) rfl (rest := rest) rfl (by rw [hb]; exact hdg) t
  simp only [arrV_size] at h1
  exact h1 st
theorem vx_dastZ {D : va_G} {cl : List vw_C} {ws : va_W} {tys : List (ClassId × FieldType)} {a : Nat} (hexec : p.tables.exec = Jvm.exec) (hb : c.code = cc) (hK : va_K D cl tys s) (hP : va_P D cl ws H) (q0 t0 : Nat) {cA : ClassId} {n : Nat} {f : Nat → UInt64} (ha : ws[q0]? = some (a, .inl (cA, n, .inr (.inr (.inr (.inl f)))))) (ht : tys[t0]? = some (cA, .double)) {i : Int32} {x : UInt64} (hout : ¬ vp_in i n) (hdg : decode cc pc = .ok (.dastore, 1))
    (k : ∀ tx : String, tx = (toString "Index " ++ toString i ++ toString " out of bounds for length " ++ toString n : String) → vx_Note p l e R s m args below meth c H locs cells slots Q (F0 m pc ls rest) "java/lang/ArrayIndexOutOfBoundsException" tx) : W p l e R s m args below meth c H locs cells slots Q (F0 m pc ls (.double x :: .int i :: .ref a :: rest)) := by
  intro T hT X
  obtain ⟨t, st, q⟩ := k _ rfl T hT X
  refine ⟨t, ?_, q⟩
  have h1 := X.dastoreOut hexec (by rw [hT]; exact hP q0 _ ha) ((hK.2 t0 _ ht).1 n (fun j => .double (f j))) (j := i) (by show (i < 0 ∨ (arrV _ _ _).slots.size ≤ _); rw [arrV_size]; exact Classical.byContradiction hout) (g := F0 m pc ls (.double x :: .int i :: .ref a :: rest)) rfl (rest := rest) rfl (by rw [hb]; exact hdg) t
  simp only [arrV_size] at h1
  exact h1 st
theorem vx_arraylengthN (hexec : p.tables.exec = Jvm.exec) (hb : c.code = cc) (hdg : decode cc pc = .ok (.arraylength, 1)) (k : vx_NoteN p l e R s m args below meth c H locs cells slots Q (F0 m pc ls rest)) : W p l e R s m args below meth c H locs cells slots Q (F0 m pc ls (.null :: rest)) := by
  intro T hT X
  obtain ⟨t, st, q⟩ := k T hT X
  exact ⟨t, X.arraylengthNull hexec (g := F0 m pc ls (.null :: rest)) rfl (rest := rest) rfl (by rw [hb]; exact hdg) t st, q⟩
theorem vx_ialoadN (hexec : p.tables.exec = Jvm.exec) (hb : c.code = cc) {i : Int32} (hdg : decode cc pc = .ok (.iaload, 1)) (k : vx_NoteN p l e R s m args below meth c H locs cells slots Q (F0 m pc ls rest)) : W p l e R s m args below meth c H locs cells slots Q (F0 m pc ls (.int i :: .null :: rest)) := by
  intro T hT X
  obtain ⟨t, st, q⟩ := k T hT X
  exact ⟨t, X.ialoadNull hexec (g := F0 m pc ls (.int i :: .null :: rest)) rfl (rest := rest) rfl (by rw [hb]; exact hdg) t st, q⟩
theorem vx_laloadN (hexec : p.tables.exec = Jvm.exec) (hb : c.code = cc) {i : Int32} (hdg : decode cc pc = .ok (.laload, 1)) (k : vx_NoteN p l e R s m args below meth c H locs cells slots Q (F0 m pc ls rest)) : W p l e R s m args below meth c H locs cells slots Q (F0 m pc ls (.int i :: .null :: rest)) := by
  intro T hT X
  obtain ⟨t, st, q⟩ := k T hT X
  exact ⟨t, X.laloadNull hexec (g := F0 m pc ls (.int i :: .null :: rest)) rfl (rest := rest) rfl (by rw [hb]; exact hdg) t st, q⟩
theorem vx_faloadN (hexec : p.tables.exec = Jvm.exec) (hb : c.code = cc) {i : Int32} (hdg : decode cc pc = .ok (.faload, 1)) (k : vx_NoteN p l e R s m args below meth c H locs cells slots Q (F0 m pc ls rest)) : W p l e R s m args below meth c H locs cells slots Q (F0 m pc ls (.int i :: .null :: rest)) := by
  intro T hT X
  obtain ⟨t, st, q⟩ := k T hT X
  exact ⟨t, X.faloadNull hexec (g := F0 m pc ls (.int i :: .null :: rest)) rfl (rest := rest) rfl (by rw [hb]; exact hdg) t st, q⟩
theorem vx_daloadN (hexec : p.tables.exec = Jvm.exec) (hb : c.code = cc) {i : Int32} (hdg : decode cc pc = .ok (.daload, 1)) (k : vx_NoteN p l e R s m args below meth c H locs cells slots Q (F0 m pc ls rest)) : W p l e R s m args below meth c H locs cells slots Q (F0 m pc ls (.int i :: .null :: rest)) := by
  intro T hT X
  obtain ⟨t, st, q⟩ := k T hT X
  exact ⟨t, X.daloadNull hexec (g := F0 m pc ls (.int i :: .null :: rest)) rfl (rest := rest) rfl (by rw [hb]; exact hdg) t st, q⟩
theorem vx_aaloadN (hexec : p.tables.exec = Jvm.exec) (hb : c.code = cc) {i : Int32} (hdg : decode cc pc = .ok (.aaload, 1)) (k : vx_NoteN p l e R s m args below meth c H locs cells slots Q (F0 m pc ls rest)) : W p l e R s m args below meth c H locs cells slots Q (F0 m pc ls (.int i :: .null :: rest)) := by
  intro T hT X
  obtain ⟨t, st, q⟩ := k T hT X
  exact ⟨t, X.aaloadNull hexec (g := F0 m pc ls (.int i :: .null :: rest)) rfl (rest := rest) rfl (by rw [hb]; exact hdg) t st, q⟩
theorem vx_baloadN (hexec : p.tables.exec = Jvm.exec) (hb : c.code = cc) {i : Int32} (hdg : decode cc pc = .ok (.baload, 1)) (k : vx_NoteN p l e R s m args below meth c H locs cells slots Q (F0 m pc ls rest)) : W p l e R s m args below meth c H locs cells slots Q (F0 m pc ls (.int i :: .null :: rest)) := by
  intro T hT X
  obtain ⟨t, st, q⟩ := k T hT X
  exact ⟨t, X.baloadNull hexec (g := F0 m pc ls (.int i :: .null :: rest)) rfl (rest := rest) rfl (by rw [hb]; exact hdg) t st, q⟩
theorem vx_caloadN (hexec : p.tables.exec = Jvm.exec) (hb : c.code = cc) {i : Int32} (hdg : decode cc pc = .ok (.caload, 1)) (k : vx_NoteN p l e R s m args below meth c H locs cells slots Q (F0 m pc ls rest)) : W p l e R s m args below meth c H locs cells slots Q (F0 m pc ls (.int i :: .null :: rest)) := by
  intro T hT X
  obtain ⟨t, st, q⟩ := k T hT X
  exact ⟨t, X.caloadNull hexec (g := F0 m pc ls (.int i :: .null :: rest)) rfl (rest := rest) rfl (by rw [hb]; exact hdg) t st, q⟩
theorem vx_saloadN (hexec : p.tables.exec = Jvm.exec) (hb : c.code = cc) {i : Int32} (hdg : decode cc pc = .ok (.saload, 1)) (k : vx_NoteN p l e R s m args below meth c H locs cells slots Q (F0 m pc ls rest)) : W p l e R s m args below meth c H locs cells slots Q (F0 m pc ls (.int i :: .null :: rest)) := by
  intro T hT X
  obtain ⟨t, st, q⟩ := k T hT X
  exact ⟨t, X.saloadNull hexec (g := F0 m pc ls (.int i :: .null :: rest)) rfl (rest := rest) rfl (by rw [hb]; exact hdg) t st, q⟩
theorem vx_iastoreN (hexec : p.tables.exec = Jvm.exec) (hb : c.code = cc) {x : Int32} {i : Int32} (hdg : decode cc pc = .ok (.iastore, 1)) (k : vx_NoteN p l e R s m args below meth c H locs cells slots Q (F0 m pc ls rest)) : W p l e R s m args below meth c H locs cells slots Q (F0 m pc ls (.int x :: .int i :: .null :: rest)) := by
  intro T hT X
  obtain ⟨t, st, q⟩ := k T hT X
  exact ⟨t, X.iastoreNull hexec (g := F0 m pc ls (.int x :: .int i :: .null :: rest)) rfl (rest := rest) rfl (by rw [hb]; exact hdg) t st, q⟩
theorem vx_lastoreN (hexec : p.tables.exec = Jvm.exec) (hb : c.code = cc) {x : Int64} {i : Int32} (hdg : decode cc pc = .ok (.lastore, 1)) (k : vx_NoteN p l e R s m args below meth c H locs cells slots Q (F0 m pc ls rest)) : W p l e R s m args below meth c H locs cells slots Q (F0 m pc ls (.long x :: .int i :: .null :: rest)) := by
  intro T hT X
  obtain ⟨t, st, q⟩ := k T hT X
  exact ⟨t, X.lastoreNull hexec (g := F0 m pc ls (.long x :: .int i :: .null :: rest)) rfl (rest := rest) rfl (by rw [hb]; exact hdg) t st, q⟩
theorem vx_fastoreN (hexec : p.tables.exec = Jvm.exec) (hb : c.code = cc) {x : UInt32} {i : Int32} (hdg : decode cc pc = .ok (.fastore, 1)) (k : vx_NoteN p l e R s m args below meth c H locs cells slots Q (F0 m pc ls rest)) : W p l e R s m args below meth c H locs cells slots Q (F0 m pc ls (.float x :: .int i :: .null :: rest)) := by
  intro T hT X
  obtain ⟨t, st, q⟩ := k T hT X
  exact ⟨t, X.fastoreNull hexec (g := F0 m pc ls (.float x :: .int i :: .null :: rest)) rfl (rest := rest) rfl (by rw [hb]; exact hdg) t st, q⟩
theorem vx_dastoreN (hexec : p.tables.exec = Jvm.exec) (hb : c.code = cc) {x : UInt64} {i : Int32} (hdg : decode cc pc = .ok (.dastore, 1)) (k : vx_NoteN p l e R s m args below meth c H locs cells slots Q (F0 m pc ls rest)) : W p l e R s m args below meth c H locs cells slots Q (F0 m pc ls (.double x :: .int i :: .null :: rest)) := by
  intro T hT X
  obtain ⟨t, st, q⟩ := k T hT X
  exact ⟨t, X.dastoreNull hexec (g := F0 m pc ls (.double x :: .int i :: .null :: rest)) rfl (rest := rest) rfl (by rw [hb]; exact hdg) t st, q⟩
theorem vx_bastoreN (hexec : p.tables.exec = Jvm.exec) (hb : c.code = cc) {x : Int32} {i : Int32} (hdg : decode cc pc = .ok (.bastore, 1)) (k : vx_NoteN p l e R s m args below meth c H locs cells slots Q (F0 m pc ls rest)) : W p l e R s m args below meth c H locs cells slots Q (F0 m pc ls (.int x :: .int i :: .null :: rest)) := by
  intro T hT X
  obtain ⟨t, st, q⟩ := k T hT X
  exact ⟨t, X.bastoreNull hexec (g := F0 m pc ls (.int x :: .int i :: .null :: rest)) rfl (rest := rest) rfl (by rw [hb]; exact hdg) t st, q⟩
theorem vx_castoreN (hexec : p.tables.exec = Jvm.exec) (hb : c.code = cc) {x : Int32} {i : Int32} (hdg : decode cc pc = .ok (.castore, 1)) (k : vx_NoteN p l e R s m args below meth c H locs cells slots Q (F0 m pc ls rest)) : W p l e R s m args below meth c H locs cells slots Q (F0 m pc ls (.int x :: .int i :: .null :: rest)) := by
  intro T hT X
  obtain ⟨t, st, q⟩ := k T hT X
  exact ⟨t, X.castoreNull hexec (g := F0 m pc ls (.int x :: .int i :: .null :: rest)) rfl (rest := rest) rfl (by rw [hb]; exact hdg) t st, q⟩
theorem vx_sastoreN (hexec : p.tables.exec = Jvm.exec) (hb : c.code = cc) {x : Int32} {i : Int32} (hdg : decode cc pc = .ok (.sastore, 1)) (k : vx_NoteN p l e R s m args below meth c H locs cells slots Q (F0 m pc ls rest)) : W p l e R s m args below meth c H locs cells slots Q (F0 m pc ls (.int x :: .int i :: .null :: rest)) := by
  intro T hT X
  obtain ⟨t, st, q⟩ := k T hT X
  exact ⟨t, X.sastoreNull hexec (g := F0 m pc ls (.int x :: .int i :: .null :: rest)) rfl (rest := rest) rfl (by rw [hb]; exact hdg) t st, q⟩
theorem vx_invokeN {own C : String} {index maxL : Nat} {y : MethodName} {bytes : ByteArray} {ret : Option FieldType} (hexec : p.tables.exec = Jvm.exec) (hb : c.code = cc) (hown : s.vm.findClass own = some m.cls) (hlink : (Cond.methodLink own index y).before args s = true) (hinst : (Cond.instanceMethod y).before args s = true) (hcode : (Cond.code y bytes maxL ret).before args s = true) (hsel : (Cond.selects C y y).before args s = true)
    (hx : y.cls ≠ "java/lang/invoke/MethodHandle" ∧ y.cls ≠ "java/lang/invoke/VarHandle") {As : List Value} (hlen : (parseMethodDescriptor y.desc).map (fun d => d.parameters.length) = some As.length) (hdg : decode cc pc = .ok (.invokevirtual index, 3))
    (k : vx_NoteN p l e R s m args below meth c H locs cells slots Q (F0 m pc ls rest)) {st0 : List Value} (hst : st0 = As.reverse ++ .null :: rest) : W p l e R s m args below meth c H locs cells slots Q (F0 m pc ls st0) := by
  intro T hT X
  obtain ⟨r0, r, hn, hrm, hstR, hsigR⟩ := va_Decl.of hinst hcode
  obtain ⟨c2, r2, m2, q1, q2, q3, q4, kP, hkP, hkPi⟩ := Cond.selects_spec hsel
  cases hn.symm.trans q3
  have hl9 : As.length = r.sig.parameters.length := by
    rw [hsigR] at hlen
    exact (Option.some.inj hlen).symm
  obtain ⟨vm', X1, st1⟩ := X.invokevirtualNull hexec hown hlink hn hrm hstR hkP hkPi hx (g := F0 m pc ls st0) rfl (argsL := As) (rest := rest) hl9 hst (by rw [hb]; exact hdg)
  obtain ⟨t, st, q⟩ := k (T.setVm vm') hT X1
  exact ⟨t, st1 t st, q⟩
theorem vx_newarrayZ {atype : ArrayType} (hexec : p.tables.exec = Jvm.exec) (hb : c.code = cc) {n : Int32} (h0 : n < 0) (hdg : decode cc pc = .ok (.newarray atype, 2)) (k : ∀ tx : String, tx = toString n → vx_Note p l e R s m args below meth c H locs cells slots Q (F0 m pc ls rest) "java/lang/NegativeArraySizeException" tx) : W p l e R s m args below meth c H locs cells slots Q (F0 m pc ls (.int n :: rest)) := by
  intro T hT X
  obtain ⟨t, st, q⟩ := k _ rfl T hT X
  exact ⟨t, X.newarrayNegative hexec (g := F0 m pc ls (.int n :: rest)) rfl h0 (rest := rest) rfl (by rw [hb]; exact hdg) t st, q⟩
end
end VXM
/-! ===== END ===== -/
/-! ===== BEGIN an exception as an object: made, kept, thrown later (no traces kept) ===== -/
section VXK
variable {p : Program} {l : Launch} {e : Env} {R : Room} {s : State} {m₀ : MethodId} {args : Array Value} {below : List Frame} {meth : Method} {c : Code} {W : State} {locs : List Loc} {cells slots : Nat}
set_option maxHeartbeats 1000000 in
theorem vx_ctorMadeS (X : Stand p l e R s m₀ args below meth c W locs cells slots) (hexec : p.tables.exec = Jvm.exec) (htr : e.platform.stackTraces = false) {own cls : String} {names : List String} {ic : Nat}
    (hown : s.vm.findClass own = some m₀.cls) (hcls : Bundle.fit cls = true) (hnames : ∀ n ∈ names, Bundle.fit n = true)
    (h : ∀ a ∈ Bundle.ownAtoms own ic cls names, a.before args s = true)
    (hlocs : ∀ x ∈ locs, ∀ cell, s.heap[x.base]? = some cell → cell.vm.isStatics = false)
    {a : Addr} {cX : ClassId} {kX : Class} (hfoundX : s.vm.findClass cls = some cX) (hkX : s.vm.classes[cX]? = some kX) (hcell : W.heap[a]? = some (freshCell cX kX)) (hnew : s.heap.size ≤ a)
    {msg : Value} (hmsg : msg.isRef = true)
    {g : JFrame} (hg : g.method = m₀) (hsize : g.locals.size = c.maxLocals) {rest : List Value} (hstack : g.stack = msg :: .ref a :: .ref a :: rest)
    (hd6 : decode c.code g.pc = .ok (.invokespecial ic, 3))
    (hRframes : names.length + 3 < R.frames) (hRlocals : 2 * g.monitorRoom + ((Value.ref a :: rest).map fun v => v.category).sum + (13 * (names.length + 1) + 42) ≤ R.locals) :
    ∃ (V : State) (ce : Cell) (L : List Loc), Stand p l e R s m₀ args below meth c (V.setCell a ce) (locs ++ L) cells slots ∧ (∀ y ∈ L, y.base = a) ∧ a < V.heap.size ∧ ce.cls = cX ∧ ce.vm = .none ∧
      ∀ target, Steps p.tables e below ((V.setCell a ce).setTop { g with stack := .ref a :: rest, pc := g.pc + 3 }) target → Steps p.tables e below (W.setTop g) target := by
  have howns : e.platform.frameOwnsMonitors = true := by rw [X.admits.platform]
  have hfin : e.platform.finalization = false := by rw [X.admits.platform]
  have hpl : e.platform.magicAccessors = ({} : Platform).magicAccessors := by rw [X.admits.platform]
  have a' : ∀ x, x ∈ Bundle.ownAtoms own ic cls names → x.holds args s none s [] = true := fun x hx => h x hx
  obtain ⟨T, Z0, L, -, Y⟩ := ThrowableC.of_atoms (args := args) howns hfin hpl (fun x hx => h x (by simp [Bundle.ownAtoms, hx]))
  obtain ⟨Z, M, LZ, LM, hnZ⟩ := Init0T.ofS_atoms (args := args) hpl L Y (fun x hx => h x (by simp [Bundle.ownAtoms, hx]))
  obtain ⟨P1, Ps, hlen, L1, hL, hP1m, hlink1, hlink⟩ := Bundle.chainS (args := args) hpl hnZ names cls hcls hnames (fun x hx => h x (by simp [Bundle.ownAtoms, hx]))
  have hfound : s.vm.findClass cls = some P1.m.cls := findClass_of_methodNamed hP1m
  cases Option.some.inj (hfoundX.symm.trans hfound)
  obtain ⟨c1, kX', hc1, hk, hord, -, -, hn6⟩ := Cond.instantiable_spec (a' (.instantiable cls 6) (by simp [Bundle.ownAtoms]))
  cases Option.some.inj (hc1.symm.trans hfound)
  cases Option.some.inj (hkX.symm.trans hk)
  have hsel0 : selectMethod e.platform s.vm P1.m.cls T.fill0 = .method T.fill0 := by
    obtain ⟨c2, r2, m2, q1, q2, q3, q4, -⟩ := Cond.selects_spec (a' (.selects cls Bundle.tFill0 Bundle.tFill0) (by simp [Bundle.ownAtoms]))
    cases Option.some.inj (q1.symm.trans hfound)
    cases Option.some.inj (q2.symm.trans (State.methodFound?_of_named Y.fill0 (by decide)))
    cases Option.some.inj (q3.symm.trans Y.fill0)
    rw [Launch.admits_selectMethod X.admits]; exact q4
  have hselF : selectMethod e.platform s.vm P1.m.cls T.fill = .method T.fill := by
    obtain ⟨c2, r2, m2, q1, q2, q3, q4, -⟩ := Cond.selects_spec (a' (.selects cls Bundle.tFill Bundle.tFill) (by simp [Bundle.ownAtoms]))
    cases Option.some.inj (q1.symm.trans hfound)
    cases Option.some.inj (q2.symm.trans (State.methodFound?_of_named Y.fill (by decide)))
    cases Option.some.inj (q3.symm.trans Y.fill)
    rw [Launch.admits_selectMethod X.admits]; exact q4
  obtain ⟨cellS0, hcS0, hiss⟩ := Y.statics
  obtain ⟨u0, hu0⟩ := Cond.staticRefV Y.unassigned L.unassignedStatic L.statics hcS0 hiss (a' (.isRef (.static Bundle.tN "UNASSIGNED_STACK" Bundle.steD)) (by simp [Bundle.ownAtoms]))
  obtain ⟨sen, hsen⟩ := Cond.staticRefV Y.sentinel L.sentinelStatic L.statics hcS0 hiss (a' (.isRef (.static Bundle.tN "SUPPRESSED_SENTINEL" Bundle.listD)) (by simp [Bundle.ownAtoms]))
  obtain ⟨ci198, i198, fB, hk198, hg198, ha198, hsB, -, hnB, htB, hffB⟩ := Cond.ownField (t := .object "java/lang/Object") Y.found L.cls (by decide +kernel) (a' (.fieldLink Bundle.tN 198 Bundle.tN "backtrace" "Ljava/lang/Object;") (by simp [Bundle.ownAtoms])) (a' (.lays Bundle.tN Bundle.tN "backtrace" "Ljava/lang/Object;") (by simp [Bundle.ownAtoms])) e.platform hpl
  obtain ⟨cellS, hcS', heS, -, hkeep⟩ := X.same.2.2.2.2.2 T.aS cellS0 hcS0
  have hcellS : W.heap[T.aS]? = some cellS := hcS'
  have hout' : ∀ i, (⟨T.aS, i⟩ : Loc) ∉ locs := fun i hmem => by
    have := hlocs _ hmem cellS0 hcS0
    rw [hiss] at this; cases this
  have hknownS : cellS.vm ≠ .unknown := by
    rw [heS]; intro hu
    rw [show cellS0.vm = .unknown from hu] at hiss
    cases hiss
  have hneS : T.aS ≠ a := Nat.ne_of_lt (Nat.lt_of_lt_of_le (Array.getElem?_eq_some_iff.mp hcS0).1 hnew)
  obtain ⟨iM, hffM⟩ := Y.msg
  obtain ⟨tyC, dC, hdC, hdnC⟩ := Cond.laysAt hfound hk Y.cause (a' (.lays cls Bundle.tN "cause" "Ljava/lang/Throwable;") (by simp [Bundle.ownAtoms]))
  obtain ⟨tyS, dS, hdS, hdnS⟩ := Cond.laysAt hfound hk Y.stack (a' (.lays cls Bundle.tN "stackTrace" Bundle.steD) (by simp [Bundle.ownAtoms]))
  obtain ⟨tyP, dP, hdP, hdnP⟩ := Cond.laysAt hfound hk Y.supp (a' (.lays cls Bundle.tN "suppressedExceptions" Bundle.listD) (by simp [Bundle.ownAtoms]))
  obtain ⟨tyM, dM, hdM, hdnM⟩ := Cond.laysAt hfound hk hffM (a' (.lays cls Bundle.tN "detailMessage" "Ljava/lang/String;") (by simp [Bundle.ownAtoms]))
  obtain ⟨tyB, dB, hdB, hdnB⟩ := Cond.laysAt hfound hk hffB (a' (.lays cls Bundle.tN "backtrace" "Ljava/lang/Object;") (by simp [Bundle.ownAtoms]))
  have bC := Cond.laysApart hdB hdC hdnB hdnC (by rw [hnB, Y.causeName]; decide)
  have bS := Cond.laysApart hdB hdS hdnB hdnS (by rw [hnB, Y.stackName]; decide)
  have bP := Cond.laysApart hdB hdP hdnB hdnP (by rw [hnB, Y.suppName]; decide)
  have hskip : SkipFacts T e.platform s (fun u => u) u0 ((preparedCellV T.toThrowableT (freshCell P1.m.cls kX) a u0 sen).withEntry W.cur) :=
    ⟨{ ci198 := ci198, i198 := i198, fBack := fB }, ⟨hk198, hg198, ha198, hsB⟩, by
      have := fresh_default (c := P1.m.cls) tyB
      rw [htB] at this
      simpa [preparedCellV, Cell.setSlot, Cell.withEntry, Array.getElem?_setIfInBounds, bC, bS, bP, bC.symm, bS.symm, bP.symm, defaultValue] using this, fun _ _ => rfl⟩
  obtain ⟨tm, methC, cdC, kC, vm₁, hnC, -, -, -, -, -, -, -, hW₁, st1⟩ := Steps.initColdS (tb := p.tables) (e := e) (below := below) (s := s) (U := W) X.here hexec X.warmed hpl hown (t := Bundle.initS cls) rfl rfl (Bundle.fit_spec hcls).2
    (a' (.methodLink own ic (Bundle.initS cls)) (by simp [Bundle.ownAtoms])) (h (.instanceMethod (Bundle.initS cls)) (by cases names <;> simp [Bundle.ownAtoms, Bundle.chainSAtoms, Bundle.passSAtoms])) (bytes := Bundle.six) (maxL := 2) (h (.code (Bundle.initS cls) Bundle.six 2 none) (by cases names <;> simp [Bundle.ownAtoms, Bundle.chainSAtoms, Bundle.passSAtoms]))
    (f := g) hg (a := a) (msg := msg) (rest := .ref a :: rest) hstack hd6
  cases Option.some.inj (hnC.symm.trans hP1m)
  have X₁ := X.noted hW₁
  obtain ⟨vm₂, X₂, st2⟩ := X₁.ctorMessageOffV hexec (g := { g with stack := .ref a :: rest }) hg hsize T L Z LZ M LM (P1 :: Ps)
    (fun P hP => by rcases List.mem_cons.mp hP with rfl | hP; exact L1; exact hL P hP) ⟨hlink1, hlink⟩ (u0 := u0) (sen := sen) (self := a) hmsg (cell := freshCell P1.m.cls kX) (cellS := cellS)
    hcell (fun _ => by simp) (by simp) rfl rfl hsel0 hselF hcellS hneS hknownS (by rw [hkeep _ (hout' _)]; exact hu0) (by rw [hkeep _ (hout' _)]; exact hsen)
    (Takes.of_laid hk hord tyC (by rw [Y.causeType]; rfl)) (Takes.of_laid hk hord tyS (by rw [Y.stackType]; exact fits_refV_array _ u0)) (Takes.of_laid hk hord tyP (by rw [Y.suppType]; exact fits_refV_object _ sen))
    (Takes.of_laid hk hord tyM (by rw [Y.msgType]; exact fits_refV_object _ ⟨msg, hmsg⟩)) Y.objLocals hskip htr [] hd6
    (by simp only [List.length_cons, hlen]; omega) (by simp only [List.length_cons, hlen]; exact hRlocals)
  have hlt : a < ((W.setVm vm₁).setVm vm₂).heap.size := (Array.getElem?_eq_some_iff.mp hcell).1
  refine ⟨(W.setVm vm₁).setVm vm₂, _, _, X₂, fun y hy => ?_, hlt, rfl, rfl, fun target hwalk => st1 _ (fun acts => ?_)⟩
  · simp only [List.mem_cons, List.not_mem_nil, or_false] at hy
    rcases hy with rfl | rfl | rfl | rfl | rfl <;> rfl
  · rw [doInvoke_state]
    exact st2 _ hwalk
set_option maxHeartbeats 1000000 in
theorem vx_ctorMade0 (X : Stand p l e R s m₀ args below meth c W locs cells slots) (hexec : p.tables.exec = Jvm.exec) (htr : e.platform.stackTraces = false) {own cls : String} {names : List String} {ic : Nat}
    (hown : s.vm.findClass own = some m₀.cls) (hcls : Bundle.fit cls = true) (hnames : ∀ n ∈ names, Bundle.fit n = true)
    (h : ∀ a ∈ Bundle.ownAtoms0 own ic cls names, a.before args s = true)
    (hlocs : ∀ x ∈ locs, ∀ cell, s.heap[x.base]? = some cell → cell.vm.isStatics = false)
    {a : Addr} {cX : ClassId} {kX : Class} (hfoundX : s.vm.findClass cls = some cX) (hkX : s.vm.classes[cX]? = some kX) (hcell : W.heap[a]? = some (freshCell cX kX)) (hnew : s.heap.size ≤ a)
    {g : JFrame} (hg : g.method = m₀) (hsize : g.locals.size = c.maxLocals) {rest : List Value} (hstack : g.stack = .ref a :: .ref a :: rest)
    (hd6 : decode c.code g.pc = .ok (.invokespecial ic, 3))
    (hRframes : names.length + 3 < R.frames) (hRlocals : 2 * g.monitorRoom + ((Value.ref a :: rest).map fun v => v.category).sum + (13 * (names.length + 1) + 41) ≤ R.locals) :
    ∃ (V : State) (ce : Cell) (L : List Loc), Stand p l e R s m₀ args below meth c (V.setCell a ce) (locs ++ L) cells slots ∧ (∀ y ∈ L, y.base = a) ∧ a < V.heap.size ∧ ce.cls = cX ∧ ce.vm = .none ∧
      ∀ target, Steps p.tables e below ((V.setCell a ce).setTop { g with stack := .ref a :: rest, pc := g.pc + 3 }) target → Steps p.tables e below (W.setTop g) target := by
  have howns : e.platform.frameOwnsMonitors = true := by rw [X.admits.platform]
  have hfin : e.platform.finalization = false := by rw [X.admits.platform]
  have hpl : e.platform.magicAccessors = ({} : Platform).magicAccessors := by rw [X.admits.platform]
  have a' : ∀ x, x ∈ Bundle.ownAtoms0 own ic cls names → x.holds args s none s [] = true := fun x hx => h x hx
  obtain ⟨T, Z, L, LZ, Y⟩ := ThrowableC.of_atoms (args := args) howns hfin hpl (fun x hx => h x (by simp [Bundle.ownAtoms0, hx]))
  obtain ⟨P1, Ps, hlen, L1, hL, hP1m, hlink1, hlink⟩ := Bundle.chain0 (args := args) hpl Y.init0 names cls hcls hnames (fun x hx => h x (by simp [Bundle.ownAtoms0, hx]))
  have hfound : s.vm.findClass cls = some P1.m.cls := findClass_of_methodNamed hP1m
  cases Option.some.inj (hfoundX.symm.trans hfound)
  obtain ⟨c1, kX', hc1, hk, hord, -, -, hn6⟩ := Cond.instantiable_spec (a' (.instantiable cls 6) (by simp [Bundle.ownAtoms0]))
  cases Option.some.inj (hc1.symm.trans hfound)
  cases Option.some.inj (hkX.symm.trans hk)
  have hsel0 : selectMethod e.platform s.vm P1.m.cls T.fill0 = .method T.fill0 := by
    obtain ⟨c2, r2, m2, q1, q2, q3, q4, -⟩ := Cond.selects_spec (a' (.selects cls Bundle.tFill0 Bundle.tFill0) (by simp [Bundle.ownAtoms0]))
    cases Option.some.inj (q1.symm.trans hfound)
    cases Option.some.inj (q2.symm.trans (State.methodFound?_of_named Y.fill0 (by decide)))
    cases Option.some.inj (q3.symm.trans Y.fill0)
    rw [Launch.admits_selectMethod X.admits]; exact q4
  have hselF : selectMethod e.platform s.vm P1.m.cls T.fill = .method T.fill := by
    obtain ⟨c2, r2, m2, q1, q2, q3, q4, -⟩ := Cond.selects_spec (a' (.selects cls Bundle.tFill Bundle.tFill) (by simp [Bundle.ownAtoms0]))
    cases Option.some.inj (q1.symm.trans hfound)
    cases Option.some.inj (q2.symm.trans (State.methodFound?_of_named Y.fill (by decide)))
    cases Option.some.inj (q3.symm.trans Y.fill)
    rw [Launch.admits_selectMethod X.admits]; exact q4
  obtain ⟨cellS0, hcS0, hiss⟩ := Y.statics
  obtain ⟨u0, hu0⟩ := Cond.staticRefV Y.unassigned L.unassignedStatic L.statics hcS0 hiss (a' (.isRef (.static Bundle.tN "UNASSIGNED_STACK" Bundle.steD)) (by simp [Bundle.ownAtoms0]))
  obtain ⟨sen, hsen⟩ := Cond.staticRefV Y.sentinel L.sentinelStatic L.statics hcS0 hiss (a' (.isRef (.static Bundle.tN "SUPPRESSED_SENTINEL" Bundle.listD)) (by simp [Bundle.ownAtoms0]))
  obtain ⟨ci198, i198, fB, hk198, hg198, ha198, hsB, -, hnB, htB, hffB⟩ := Cond.ownField (t := .object "java/lang/Object") Y.found L.cls (by decide +kernel) (a' (.fieldLink Bundle.tN 198 Bundle.tN "backtrace" "Ljava/lang/Object;") (by simp [Bundle.ownAtoms0])) (a' (.lays Bundle.tN Bundle.tN "backtrace" "Ljava/lang/Object;") (by simp [Bundle.ownAtoms0])) e.platform hpl
  obtain ⟨cellS, hcS', heS, -, hkeep⟩ := X.same.2.2.2.2.2 T.aS cellS0 hcS0
  have hcellS : W.heap[T.aS]? = some cellS := hcS'
  have hout' : ∀ i, (⟨T.aS, i⟩ : Loc) ∉ locs := fun i hmem => by
    have := hlocs _ hmem cellS0 hcS0
    rw [hiss] at this; cases this
  have hknownS : cellS.vm ≠ .unknown := by
    rw [heS]; intro hu
    rw [show cellS0.vm = .unknown from hu] at hiss
    cases hiss
  have hneS : T.aS ≠ a := Nat.ne_of_lt (Nat.lt_of_lt_of_le (Array.getElem?_eq_some_iff.mp hcS0).1 hnew)
  obtain ⟨iM, hffM⟩ := Y.msg
  obtain ⟨tyC, dC, hdC, hdnC⟩ := Cond.laysAt hfound hk Y.cause (a' (.lays cls Bundle.tN "cause" "Ljava/lang/Throwable;") (by simp [Bundle.ownAtoms0]))
  obtain ⟨tyS, dS, hdS, hdnS⟩ := Cond.laysAt hfound hk Y.stack (a' (.lays cls Bundle.tN "stackTrace" Bundle.steD) (by simp [Bundle.ownAtoms0]))
  obtain ⟨tyP, dP, hdP, hdnP⟩ := Cond.laysAt hfound hk Y.supp (a' (.lays cls Bundle.tN "suppressedExceptions" Bundle.listD) (by simp [Bundle.ownAtoms0]))
  obtain ⟨tyM, dM, hdM, hdnM⟩ := Cond.laysAt hfound hk hffM (a' (.lays cls Bundle.tN "detailMessage" "Ljava/lang/String;") (by simp [Bundle.ownAtoms0]))
  obtain ⟨tyB, dB, hdB, hdnB⟩ := Cond.laysAt hfound hk hffB (a' (.lays cls Bundle.tN "backtrace" "Ljava/lang/Object;") (by simp [Bundle.ownAtoms0]))
  have bC := Cond.laysApart hdB hdC hdnB hdnC (by rw [hnB, Y.causeName]; decide)
  have bS := Cond.laysApart hdB hdS hdnB hdnS (by rw [hnB, Y.stackName]; decide)
  have bP := Cond.laysApart hdB hdP hdnB hdnP (by rw [hnB, Y.suppName]; decide)
  have hskip : SkipFacts T e.platform s (fun u => u) u0 ((preparedCellV T.toThrowableT (freshCell P1.m.cls kX) a u0 sen).withEntry W.cur) :=
    ⟨{ ci198 := ci198, i198 := i198, fBack := fB }, ⟨hk198, hg198, ha198, hsB⟩, by
      have := fresh_default (c := P1.m.cls) tyB
      rw [htB] at this
      simpa [preparedCellV, Cell.setSlot, Cell.withEntry, Array.getElem?_setIfInBounds, bC, bS, bP, bC.symm, bS.symm, bP.symm, defaultValue] using this, fun _ _ => rfl⟩
  obtain ⟨tm, methC, cdC, kC, vm₁, hnC, -, -, -, -, -, -, -, hW₁, st1⟩ := Steps.initCold (tb := p.tables) (e := e) (below := below) (s := s) (U := W) X.here hexec X.warmed hpl hown (t := Bundle.init0 cls) rfl rfl (Bundle.fit_spec hcls).2
    (a' (.methodLink own ic (Bundle.init0 cls)) (by simp [Bundle.ownAtoms0])) (h (.instanceMethod (Bundle.init0 cls)) (by cases names <;> simp [Bundle.ownAtoms0, Bundle.chain0Atoms, Bundle.passAtoms])) (bytes := Bundle.five) (maxL := 1) (h (.code (Bundle.init0 cls) Bundle.five 1 none) (by cases names <;> simp [Bundle.ownAtoms0, Bundle.chain0Atoms, Bundle.passAtoms]))
    (f := g) hg (a := a) (rest := .ref a :: rest) hstack hd6
  cases Option.some.inj (hnC.symm.trans hP1m)
  have X₁ := X.noted hW₁
  obtain ⟨vm₂, X₂, st2⟩ := X₁.ctorPlainOffV hexec (g := { g with stack := .ref a :: rest }) hg hsize T L Z LZ (P1 :: Ps)
    (fun P hP => by rcases List.mem_cons.mp hP with rfl | hP; exact L1; exact hL P hP) ⟨hlink1, hlink⟩ (u0 := u0) (sen := sen) (self := a) (cell := freshCell P1.m.cls kX) (cellS := cellS)
    hcell (fun _ => by simp) (by simp) rfl rfl hsel0 hselF hcellS hneS hknownS (by rw [hkeep _ (hout' _)]; exact hu0) (by rw [hkeep _ (hout' _)]; exact hsen)
    (Takes.of_laid hk hord tyC (by rw [Y.causeType]; rfl)) (Takes.of_laid hk hord tyS (by rw [Y.stackType]; exact fits_refV_array _ u0)) (Takes.of_laid hk hord tyP (by rw [Y.suppType]; exact fits_refV_object _ sen)) Y.objLocals hskip htr [] hd6
    (by simp only [List.length_cons, hlen]; omega) (by simp only [List.length_cons, hlen]; exact hRlocals)
  have hlt : a < ((W.setVm vm₁).setVm vm₂).heap.size := (Array.getElem?_eq_some_iff.mp hcell).1
  refine ⟨(W.setVm vm₁).setVm vm₂, _, _, X₂, fun y hy => ?_, hlt, rfl, rfl, fun target hwalk => st1 _ (fun acts => ?_)⟩
  · simp only [List.mem_cons, List.not_mem_nil, or_false] at hy
    rcases hy with rfl | rfl | rfl | rfl <;> rfl
  · rw [doInvoke_state]
    exact st2 _ hwalk
end VXK
section VXK2
variable {p : Program} {l : Launch} {e : Env} {R : Room} {s : State} {m : MethodId} {args : Array Value} {below : List Frame} {meth : Method} {c : Code} {H : Heap} {locs : List Loc} {cells slots : Nat} {Q : State → Prop}
variable {ls : Array Slot} {rest : List Value} {D : va_G} {cl : List vw_C} {tys : List (ClassId × FieldType)} {ws : va_W}
/-- 'new E("text")' that isn't thrown at once: the object goes on the stack -/
theorem vx_makeS {cc : ByteArray} {pc : Nat} (hexec : p.tables.exec = Jvm.exec) (hb : c.code = cc) (hl : l.stackTraces = false) {own cls text : String} {names : List String} {ik is ic sa ci : Nat} {A : Nat → Prop} {T0 : u_T}
    (hown : s.vm.findClass own = some m.cls) (hcls : Bundle.fit cls = true) (hnames : ∀ n ∈ names, Bundle.fit n = true)
    (hk : (Cond.classLink own ik cls).before args s = true) (hini : (Cond.initialized cls).before args s = true) (hstr : vk_R own is text sa s) (hat : ∀ w ∈ vx_atS own ic cls names, w.before args s = true)
    (hgood : ∀ w ∈ Cond.classLink own ik cls :: Cond.initialized cls :: vx_atS own ic cls names, vx_ot w = true)
    (hU : vx_Zq Bundle.tN "UNASSIGNED_STACK" Bundle.steD A s s.heap) (hN : vx_Zq Bundle.tN "SUPPRESSED_SENTINEL" Bundle.listD A s s.heap) (hS : va_S A s.heap H locs) (hsize : ls.size = c.maxLocals)
    (d0 : decode cc pc = .ok (.new ik, 3)) (d3 : decode cc (pc + 3) = .ok (.dup, 1)) (d4 : decode cc (pc + 4) = .ok (.ldc is, 2)) (d6 : decode cc (pc + 6) = .ok (.invokespecial ic, 3))
    (hK : va_K D cl tys s) (hP : va_P D cl ws H) (hD : va_D A ws) (hA : ∀ q, s.heap.size ≤ q → A q) (hc : cl[ci]? = some (cls, T0, 0))
    (hRframes : names.length + 3 < R.frames) (hRlocals : (rest.map fun v => v.category).sum + (13 * (names.length + 1) + 43) ≤ R.locals) (hRcells : cells + 1 ≤ R.cells) (hRslots : slots + 6 ≤ R.slots)
    (kk : ∀ (q : Nat) (H1 : Heap), va_P D cl (ws ++ [(q, .inr (ci, []))]) H1 → va_D A (ws ++ [(q, .inr (ci, []))]) → va_S A s.heap H1 locs → W p l e R s m args below meth c H1 locs (cells + 1) (slots + 6) Q (F0 m (pc + 9) ls (.ref q :: rest))) :
    W p l e R s m args below meth c H locs cells slots Q (F0 m pc ls rest) := by
  intro T hT X
  subst hT
  have htr : e.platform.stackTraces = false := (show e.platform.stackTraces = l.stackTraces by rw [X.admits.platform]).trans hl
  have Y := vx_rebase X (R' := { frames := R.frames, locals := R.locals, cells := 1, slots := 6 }) (Nat.le_refl _) (Nat.le_refl _) hRcells hRslots
  obtain ⟨s', hA'⟩ : ∃ z, z = (T.setVm s.vm).setFrames (.invoking m args :: below) := ⟨_, rfl⟩
  rw [← hA'] at Y
  have hvm : s'.vm = s.vm := by rw [hA']; rfl
  have hhp : s'.heap = T.heap := by rw [hA']; rfl
  have hW0 : s.WarmedH s'.vm := by rw [hvm]; exact State.WarmedH.refl s
  have hat' : ∀ w ∈ vx_atS own ic cls names, w.before args s' = true := fun w hw => vx_ot_at hW0 hvm.symm (hgood w (List.mem_cons_of_mem _ (List.mem_cons_of_mem _ hw))) (hat w hw)
  have hk' : (Cond.classLink own ik cls).before args s' = true := vx_ot_at hW0 hvm.symm (hgood _ List.mem_cons_self) hk
  have hini' : (Cond.initialized cls).before args s' = true := vx_ot_at hW0 hvm.symm (hgood _ (List.mem_cons_of_mem _ List.mem_cons_self)) hini
  have hU' : vx_Zq Bundle.tN "UNASSIGNED_STACK" Bundle.steD A s' s'.heap := by rw [hhp]; exact vx_Zq.moved hW0.alike (hU.kept hS.2.1)
  have hN' : vx_Zq Bundle.tN "SUPPRESSED_SENTINEL" Bundle.listD A s' s'.heap := by rw [hhp]; exact vx_Zq.moved hW0.alike (hN.kept hS.2.1)
  have h : ∀ w ∈ Bundle.ownAtoms own ic cls names, w.before args s' = true := vx_own hat' (vx_isRefq hU'.1) (vx_isRefq hN'.1) hU'.2.word hN'.2.word
  have hown' : s'.vm.findClass own = some m.cls := by rw [hvm]; exact hown
  have hins : (Cond.instantiable cls 6).before args s' = true := h _ (by simp [Bundle.ownAtoms])
  obtain ⟨vm₁, cX, kX, hfX, hkX, -, -, X₁, st1⟩ := Y.newCold hexec (own := own) (C := cls) (index := ik) (n := 6) hown' hk' hins hini'
    (g := F0 m pc ls rest) rfl (by rw [hb]; exact d0) (Nat.le_refl _) (Nat.le_refl _)
  generalize hT1 : (T.setVm vm₁).pushCell { cls := cX, slots := kX.instanceTypes.map defaultValue, vm := .none } = T1 at X₁ st1
  have hcat : (Value.ref T.heap.size).category = 1 := rfl
  have hcellA : T1.heap[T.heap.size]? = some (freshCell cX kX) := by rw [← hT1]; exact State.heap_pushCell_size _ _
  have d3' : decode c.code (pc + 3) = .ok (.dup, 1) := by rw [hb]; exact d3
  have d4' : decode c.code (pc + 4) = .ok (.ldc is, 2) := by rw [hb]; exact d4
  have hstr' : vk_R own is text sa s' := vk_R.warm hW0 hstr
  obtain ⟨V, ce, L, Z, hL, hlt, hcl9, hvm9, st⟩ := vx_ctorMadeS X₁ hexec htr (own := own) (cls := cls) (names := names) (ic := ic) hown' hcls hnames h (fun x hx => nomatch hx) hfX hkX hcellA (by rw [hhp]; exact Nat.le_refl _) (msg := .ref sa) rfl
    (g := { method := m, pc := pc + 6, locals := ls, stack := .ref sa :: .ref T.heap.size :: .ref T.heap.size :: rest, locked := none }) rfl hsize (rest := rest) rfl
    (by rw [hb]; exact d6) hRframes (by simp only [List.map_cons, List.sum_cons, hcat]; omega)
  have Z0 := Stand.forget (locs := []) Z (fun y hy => by rw [hL y hy, hhp]; exact Nat.le_refl _)
  obtain ⟨f1, f2⟩ := vx_frame Z0.same
  rw [hhp] at f1 f2
  have hcid : ce.cls = D.1 ci := by
    rw [hcl9]
    have h1 := (hK.1 ci _ hc).2.1
    rw [hvm] at hfX
    exact Option.some.inj (hfX.symm.trans h1)
  have hh : (V.setCell T.heap.size ce).heap[T.heap.size]? = some ce := heapAt_setCell_self (s := V) ce hlt
  subst hA'
  have X5 := vx_back9 X Y Z0
  have X6 : Stand p l e R s m args below meth c (V.setCell T.heap.size ce) locs (cells + 1) (slots + 6) := { X5 with same := X5.same.mono (by omega) (by omega) }
  have hk9 : ∀ (k : Nat) (x : Nat × va_E), ws[k]? = some x → (V.setCell T.heap.size ce).heap[x.1]? = T.heap[x.1]? := fun k x hx => f2 x.1 ((hP k x hx).lt) (fun z hz => nomatch hz)
  obtain ⟨t, a1, b1⟩ := kk T.heap.size (V.setCell T.heap.size ce).heap ((hP.kept hk9).app (fun k x hx => by
      have hz : k < 1 := (List.getElem?_eq_some_iff.mp hx).1
      rw [show k = 0 by omega] at hx
      cases hx
      exact ⟨_, hc, ce, hh, hcid, hvm9, fun k hk => absurd hk (Nat.not_lt_zero k)⟩)) (hD.push hP rfl (hA _ hS.1)) ⟨Nat.le_trans hS.1 f1, fun q h1 h2 => (f2 q (Nat.lt_of_lt_of_le h1 hS.1) (fun z hz => nomatch hz)).trans (hS.2.1 q h1 h2), hS.2.2⟩ _ rfl X6
  refine ⟨t, st1 _ ?_, b1⟩
  show Steps p.tables e below (T1.setTop { method := m, pc := pc + 3, locals := ls, stack := .ref T.heap.size :: rest, locked := none }) _
  jvm_step X₁.here [X₁.here.top, hexec, d3', Value.category]
  exact X₁.ldcString hexec (own := own) (text := text) (index := is) (a := sa) hown' hstr'.1 hstr'.2
    (g := { method := m, pc := pc + 4, locals := ls, stack := .ref T.heap.size :: .ref T.heap.size :: rest, locked := none }) rfl d4' _ (st _ a1)
/-- 'new E()' that isn't thrown at once: the object goes on the stack -/
theorem vx_make0 {cc : ByteArray} {pc : Nat} (hexec : p.tables.exec = Jvm.exec) (hb : c.code = cc) (hl : l.stackTraces = false) {own cls : String} {names : List String} {ik ic ci : Nat} {A : Nat → Prop} {T0 : u_T}
    (hown : s.vm.findClass own = some m.cls) (hcls : Bundle.fit cls = true) (hnames : ∀ n ∈ names, Bundle.fit n = true)
    (hk : (Cond.classLink own ik cls).before args s = true) (hini : (Cond.initialized cls).before args s = true) (hat : ∀ w ∈ vx_at0 own ic cls names, w.before args s = true)
    (hgood : ∀ w ∈ Cond.classLink own ik cls :: Cond.initialized cls :: vx_at0 own ic cls names, vx_ot w = true)
    (hU : vx_Zq Bundle.tN "UNASSIGNED_STACK" Bundle.steD A s s.heap) (hN : vx_Zq Bundle.tN "SUPPRESSED_SENTINEL" Bundle.listD A s s.heap) (hS : va_S A s.heap H locs) (hsize : ls.size = c.maxLocals)
    (d0 : decode cc pc = .ok (.new ik, 3)) (d3 : decode cc (pc + 3) = .ok (.dup, 1)) (d4 : decode cc (pc + 4) = .ok (.invokespecial ic, 3))
    (hK : va_K D cl tys s) (hP : va_P D cl ws H) (hD : va_D A ws) (hA : ∀ q, s.heap.size ≤ q → A q) (hc : cl[ci]? = some (cls, T0, 0))
    (hRframes : names.length + 3 < R.frames) (hRlocals : (rest.map fun v => v.category).sum + (13 * (names.length + 1) + 42) ≤ R.locals) (hRcells : cells + 1 ≤ R.cells) (hRslots : slots + 6 ≤ R.slots)
    (kk : ∀ (q : Nat) (H1 : Heap), va_P D cl (ws ++ [(q, .inr (ci, []))]) H1 → va_D A (ws ++ [(q, .inr (ci, []))]) → va_S A s.heap H1 locs → W p l e R s m args below meth c H1 locs (cells + 1) (slots + 6) Q (F0 m (pc + 7) ls (.ref q :: rest))) :
    W p l e R s m args below meth c H locs cells slots Q (F0 m pc ls rest) := by
  intro T hT X
  subst hT
  have htr : e.platform.stackTraces = false := (show e.platform.stackTraces = l.stackTraces by rw [X.admits.platform]).trans hl
  have Y := vx_rebase X (R' := { frames := R.frames, locals := R.locals, cells := 1, slots := 6 }) (Nat.le_refl _) (Nat.le_refl _) hRcells hRslots
  obtain ⟨s', hA'⟩ : ∃ z, z = (T.setVm s.vm).setFrames (.invoking m args :: below) := ⟨_, rfl⟩
  rw [← hA'] at Y
  have hvm : s'.vm = s.vm := by rw [hA']; rfl
  have hhp : s'.heap = T.heap := by rw [hA']; rfl
  have hW0 : s.WarmedH s'.vm := by rw [hvm]; exact State.WarmedH.refl s
  have hat' : ∀ w ∈ vx_at0 own ic cls names, w.before args s' = true := fun w hw => vx_ot_at hW0 hvm.symm (hgood w (List.mem_cons_of_mem _ (List.mem_cons_of_mem _ hw))) (hat w hw)
  have hk' : (Cond.classLink own ik cls).before args s' = true := vx_ot_at hW0 hvm.symm (hgood _ List.mem_cons_self) hk
  have hini' : (Cond.initialized cls).before args s' = true := vx_ot_at hW0 hvm.symm (hgood _ (List.mem_cons_of_mem _ List.mem_cons_self)) hini
  have hU' : vx_Zq Bundle.tN "UNASSIGNED_STACK" Bundle.steD A s' s'.heap := by rw [hhp]; exact vx_Zq.moved hW0.alike (hU.kept hS.2.1)
  have hN' : vx_Zq Bundle.tN "SUPPRESSED_SENTINEL" Bundle.listD A s' s'.heap := by rw [hhp]; exact vx_Zq.moved hW0.alike (hN.kept hS.2.1)
  have h : ∀ w ∈ Bundle.ownAtoms0 own ic cls names, w.before args s' = true := vx_own hat' (vx_isRefq hU'.1) (vx_isRefq hN'.1) hU'.2.word hN'.2.word
  have hown' : s'.vm.findClass own = some m.cls := by rw [hvm]; exact hown
  have hins : (Cond.instantiable cls 6).before args s' = true := h _ (by simp [Bundle.ownAtoms0])
  obtain ⟨vm₁, cX, kX, hfX, hkX, -, -, X₁, st1⟩ := Y.newCold hexec (own := own) (C := cls) (index := ik) (n := 6) hown' hk' hins hini'
    (g := F0 m pc ls rest) rfl (by rw [hb]; exact d0) (Nat.le_refl _) (Nat.le_refl _)
  generalize hT1 : (T.setVm vm₁).pushCell { cls := cX, slots := kX.instanceTypes.map defaultValue, vm := .none } = T1 at X₁ st1
  have hcat : (Value.ref T.heap.size).category = 1 := rfl
  have hcellA : T1.heap[T.heap.size]? = some (freshCell cX kX) := by rw [← hT1]; exact State.heap_pushCell_size _ _
  have d3' : decode c.code (pc + 3) = .ok (.dup, 1) := by rw [hb]; exact d3
  obtain ⟨V, ce, L, Z, hL, hlt, hcl9, hvm9, st⟩ := vx_ctorMade0 X₁ hexec htr (own := own) (cls := cls) (names := names) (ic := ic) hown' hcls hnames h (fun x hx => nomatch hx) hfX hkX hcellA (by rw [hhp]; exact Nat.le_refl _)
    (g := { method := m, pc := pc + 4, locals := ls, stack := .ref T.heap.size :: .ref T.heap.size :: rest, locked := none }) rfl hsize (rest := rest) rfl
    (by rw [hb]; exact d4) hRframes (by simp only [List.map_cons, List.sum_cons, hcat]; omega)
  have Z0 := Stand.forget (locs := []) Z (fun y hy => by rw [hL y hy, hhp]; exact Nat.le_refl _)
  obtain ⟨f1, f2⟩ := vx_frame Z0.same
  rw [hhp] at f1 f2
  have hcid : ce.cls = D.1 ci := by
    rw [hcl9]
    have h1 := (hK.1 ci _ hc).2.1
    rw [hvm] at hfX
    exact Option.some.inj (hfX.symm.trans h1)
  have hh : (V.setCell T.heap.size ce).heap[T.heap.size]? = some ce := heapAt_setCell_self (s := V) ce hlt
  subst hA'
  have X5 := vx_back9 X Y Z0
  have X6 : Stand p l e R s m args below meth c (V.setCell T.heap.size ce) locs (cells + 1) (slots + 6) := { X5 with same := X5.same.mono (by omega) (by omega) }
  have hk9 : ∀ (k : Nat) (x : Nat × va_E), ws[k]? = some x → (V.setCell T.heap.size ce).heap[x.1]? = T.heap[x.1]? := fun k x hx => f2 x.1 ((hP k x hx).lt) (fun z hz => nomatch hz)
  obtain ⟨t, a1, b1⟩ := kk T.heap.size (V.setCell T.heap.size ce).heap ((hP.kept hk9).app (fun k x hx => by
      have hz : k < 1 := (List.getElem?_eq_some_iff.mp hx).1
      rw [show k = 0 by omega] at hx
      cases hx
      exact ⟨_, hc, ce, hh, hcid, hvm9, fun k hk => absurd hk (Nat.not_lt_zero k)⟩)) (hD.push hP rfl (hA _ hS.1)) ⟨Nat.le_trans hS.1 f1, fun q h1 h2 => (f2 q (Nat.lt_of_lt_of_le h1 hS.1) (fun z hz => nomatch hz)).trans (hS.2.1 q h1 h2), hS.2.2⟩ _ rfl X6
  refine ⟨t, st1 _ ?_, b1⟩
  show Steps p.tables e below (T1.setTop { method := m, pc := pc + 3, locals := ls, stack := .ref T.heap.size :: rest, locked := none }) _
  jvm_step X₁.here [X₁.here.top, hexec, d3', Value.category]
  exact st _ a1
/-- 'throw x' of an object that was made before -/
theorem vx_athrow {cc : ByteArray} {pc : Nat} (hexec : p.tables.exec = Jvm.exec) (hb : c.code = cc) {q : Addr} (hdg : decode cc pc = .ok (.athrow, 1)) (k : vx_W p l e R s m args below meth c H locs cells slots Q (F0 m pc ls rest) q) : W p l e R s m args below meth c H locs cells slots Q (F0 m pc ls (.ref q :: rest)) := by
  intro T hT X
  obtain ⟨t, st, hq⟩ := k T hT X
  refine ⟨t, ?_, hq⟩
  have hdg' : decode c.code pc = .ok (.athrow, 1) := by rw [hb]; exact hdg
  jvm_step X.here [X.here.top, hexec, hdg', athrow.wp_sem]
  exact st
end VXK2
/-! ===== END ===== -/
/-! ===== BEGIN a constructor that throws (launches without stack traces) ===== -/
section VXIA
variable {p : Program} {l : Launch} {e : Env} {R : Room} {s : State} {m : MethodId} {args : Array Value} {below : List Frame} {meth : Method} {c : Code} {T : State} {locs : List Loc} {cells slots : Nat}
theorem vx_callI (X : Stand p l e R s m args below meth c T locs cells slots) (hexec : p.tables.exec = Jvm.exec) {own : String} {index : Nat} {y : MethodName} {bytes : ByteArray} {maxL : Nat}
    (hown : s.vm.findClass own = some m.cls) (hy1 : y.name = "<init>") (hlink : (Cond.methodLink own index y).before args s = true) (hinst : (Cond.instanceMethod y).before args s = true)
    (hcode : (Cond.code y bytes maxL none).before args s = true) (hy : y.cls ≠ "java/lang/invoke/MethodHandle" ∧ y.cls ≠ "java/lang/invoke/VarHandle")
    {W9 : Nat} {Pre : Pt → Array Value → Prop} {Post : Pt → Array Value → Option Value → Pt → Prop} {PostX : Pt → Array Value → Addr → Pt → Prop} (hK : vx_Back l R p e below s args y 3 W9 Pre Post PostX)
    {g : JFrame} (hg : g.method = m) (hsize : g.locals.size = c.maxLocals) {a : Addr} {argsL rest : List Value} (hlen : ∀ sig, parseMethodDescriptor y.desc = some sig → argsL.length = sig.parameters.length)
    (hstack : g.stack = argsL.reverse ++ .ref a :: rest) (hW : 2 * g.monitorRoom + (rest.map fun v => v.category).sum ≤ W9) (hdg : decode c.code g.pc = .ok (.invokespecial index, 3))
    (hpre : ∀ vm₁, s.WarmedH vm₁ → Pre ⟨T.setVm vm₁, locs, cells, slots⟩ (Value.ref a :: argsL).toArray) :
    (∃ (v : Option Value) (vm₁ : Vm) (B : Pt), s.WarmedH vm₁ ∧ Stand p l e R s m args below meth c B.U B.locs B.cells B.slots ∧ Post ⟨T.setVm vm₁, locs, cells, slots⟩ (Value.ref a :: argsL).toArray v B ∧
      ∀ target, Steps p.tables e below (B.U.setTop { g with pc := g.pc + 3, stack := v.toList ++ rest }) target → Steps p.tables e below (T.setTop g) target) ∨
    (∃ (q : Addr) (vm₁ : Vm) (B : Pt), s.WarmedH vm₁ ∧ Stand p l e R s m args below meth c B.U B.locs B.cells B.slots ∧ PostX ⟨T.setVm vm₁, locs, cells, slots⟩ (Value.ref a :: argsL).toArray q B ∧
      Steps p.tables e below (T.setTop g) ((B.U.setTop { g with stack := rest }).pushFrame (.throwing q))) := by
  subst hg
  have hpl : e.platform.magicAccessors = ({} : Platform).magicAccessors := by rw [X.admits.platform]
  obtain ⟨mk, methM, cM, kP, vm₁, hnamed, hmethM, hcodeM, -, hlocalsM, -, hkP, -, hW₁, hstep₁⟩ := Steps.initColdArgs (e := e) X.here hexec X.warmed hpl hown hy1 hy hlink hinst hcode (f := g) rfl hlen hstack hdg
  have X₁ := X.noted hW₁
  rcases hK g.method meth c ⟨T.setVm vm₁, locs, cells, slots⟩ { g with stack := rest } (.invokespecial index) mk (Value.ref a :: argsL).toArray X₁ rfl hsize hdg hW (X₁.named hnamed) (hpre vm₁ X₁.warmed) with ⟨v, B, X', hpost, hsteps⟩ | ⟨q, B, X', hpost, hsteps⟩
  · exact Or.inl ⟨v, vm₁, B, X₁.warmed, X', hpost, fun target h => hstep₁ _ fun acts => by rw [doInvoke_state]; exact hsteps.trans h⟩
  · exact Or.inr ⟨q, vm₁, B, X₁.warmed, X', hpost, hstep₁ _ fun acts => by rw [doInvoke_state]; exact hsteps⟩
end VXIA
section VXIB
variable {p : Program} {l : Launch} {e : Env} {R : Room} {s : State} {m : MethodId} {args : Array Value} {below : List Frame} {meth : Method} {c : Code} {H : Heap} {locs : List Loc} {cells slots : Nat}
variable {y : MethodName} {bytes cc : ByteArray} {maxL nL mc ms n index : Nat} {ret : Option FieldType} {ws : List Cond} {rm : Room} {Pc : Array Value → State → Prop} {Qc : Array Value → State → Outcome → State → Prop} {XC : String → State → State → Prop} {free : Addr → Prop} {Ts : List Cond} {own C : String} {b : Addr} {As rest : List Value} {g : JFrame}
theorem vx_runI (S : CallFix p m c cc nL s args Ts own) (hM : vx_Met l y ws rm Pc Qc XC mc ms free) (cw : CallB R s args own index y bytes maxL none ws rm mc ms n ∧ y.name = "<init>" ∧ (Cond.instanceMethod y).before args s = true) (hp : PreS s H Pc (.ref b :: As))
    (hg : g.method = m) (hn : As.length = n) (hsize : g.locals.size = nL) (hstack : g.stack = As.reverse ++ .ref b :: rest) (hW : 2 * g.monitorRoom + (rest.map fun v => v.category).sum ≤ 8) (hdg : decode cc g.pc = .ok (.invokespecial index, 3)) (hf : cells + mc ≤ R.cells ∧ slots + ms ≤ R.slots) :
    vx_Run p l e R s m args below meth c H locs cells slots mc ms g rest (Qc (Value.ref b :: As).toArray) XC free := by
  have hK : vx_Back l R p e below s args y 3 8 (PreOf R mc ms Pc) (PostOf Qc mc ms free) (vx_Post XC mc ms free) := vx_callBack cw.1 hM hp.1
  obtain ⟨⟨-, -, -, -, -, -, hcode, -, hy, hlen, hl⟩, hy1, hin⟩ := cw
  obtain ⟨hx, hb, hml, ho, -⟩ := S
  have hPc := hp.2
  intro T hT X
  rcases vx_callI X hx (bytes := bytes) (maxL := maxL) ho hy1 hl hin hcode hy hK hg (hsize.trans hml.symm) (a := b) (argsL := As) (rest := rest) (fun sig h => hn.trans (hlen sig h)) hstack hW (by rw [hb]; exact hdg)
    (fun vm₁ hW₁ => ⟨hf.1, hf.2, hPc (T.setVm vm₁) hT hW₁⟩) with ⟨v, vm₁, ⟨U', l2, c2, s2⟩, hW₁, X', ⟨g', mk, t, L, e1, e2, hq, h1, hL, h2, h3⟩, st⟩ | ⟨q, vm₁, ⟨U', l2, c2, s2⟩, hW₁, X', ⟨g', mk, t, L, E, ce, e1, e2, hq, hce, hcv, hcl, h1, hL, h2, h3⟩, st⟩
  · dsimp only [Pt.U, Pt.locs, Pt.cells, Pt.slots] at X' e1 e2 h1 h2 h3 st
    subst h1; subst h2; subst h3
    exact Or.inl ⟨v, (T.setVm vm₁).calling g' mk (Value.ref b :: As).toArray, t, U', L, hT, X', hL, e1, e2, hq, st⟩
  · dsimp only [Pt.U, Pt.locs, Pt.cells, Pt.slots] at X' e1 e2 h1 h2 h3 st hcl
    subst h1; subst h2; subst h3
    exact Or.inr ⟨q, (T.setVm vm₁).calling g' mk (Value.ref b :: As).toArray, t, U', L, E, ce, hT, X', hL, e1, e2, hq, hce, hcv, vx_cls hW₁ hcl, st⟩
end VXIB
/-! ===== END ===== -/
/-! ===== BEGIN a private constructor of a nest mate that throws ===== -/
section VXIC
variable {p : Program} {l : Launch} {e : Env} {R : Room} {s : State} {m : MethodId} {args : Array Value} {below : List Frame} {meth : Method} {c : Code} {T : State} {locs : List Loc} {cells slots : Nat}
theorem vx_callIN (X : Stand p l e R s m args below meth c T locs cells slots) (hexec : p.tables.exec = Jvm.exec) {own : String} {index : Nat} {host : String} {y : MethodName} {bytes : ByteArray} {maxL : Nat}
    (hown : s.vm.findClass own = some m.cls) (hy1 : y.name = "<init>") (hlink : (Cond.methodLinkNest own index y host).before args s = true) (hinst : (Cond.instanceMethod y).before args s = true)
    (hcode : (Cond.code y bytes maxL none).before args s = true) (hy : y.cls ≠ "java/lang/invoke/MethodHandle" ∧ y.cls ≠ "java/lang/invoke/VarHandle")
    {W9 : Nat} {Pre : Pt → Array Value → Prop} {Post : Pt → Array Value → Option Value → Pt → Prop} {PostX : Pt → Array Value → Addr → Pt → Prop} (hK : vx_Back l R p e below s args y 3 W9 Pre Post PostX)
    {g : JFrame} (hg : g.method = m) (hsize : g.locals.size = c.maxLocals) {a : Addr} {argsL rest : List Value} (hlen : ∀ sig, parseMethodDescriptor y.desc = some sig → argsL.length = sig.parameters.length)
    (hstack : g.stack = argsL.reverse ++ .ref a :: rest) (hW : 2 * g.monitorRoom + (rest.map fun v => v.category).sum ≤ W9) (hdg : decode c.code g.pc = .ok (.invokespecial index, 3))
    (hpre : ∀ vm₁, s.WarmedH vm₁ → Pre ⟨T.setVm vm₁, locs, cells, slots⟩ (Value.ref a :: argsL).toArray) :
    (∃ (v : Option Value) (vm₁ : Vm) (B : Pt), s.WarmedH vm₁ ∧ Stand p l e R s m args below meth c B.U B.locs B.cells B.slots ∧ Post ⟨T.setVm vm₁, locs, cells, slots⟩ (Value.ref a :: argsL).toArray v B ∧
      ∀ target, Steps p.tables e below (B.U.setTop { g with pc := g.pc + 3, stack := v.toList ++ rest }) target → Steps p.tables e below (T.setTop g) target) ∨
    (∃ (q : Addr) (vm₁ : Vm) (B : Pt), s.WarmedH vm₁ ∧ Stand p l e R s m args below meth c B.U B.locs B.cells B.slots ∧ PostX ⟨T.setVm vm₁, locs, cells, slots⟩ (Value.ref a :: argsL).toArray q B ∧
      Steps p.tables e below (T.setTop g) ((B.U.setTop { g with stack := rest }).pushFrame (.throwing q))) := by
  subst hg
  have hpl : e.platform.magicAccessors = ({} : Platform).magicAccessors := by rw [X.admits.platform]
  obtain ⟨mk, methM, cM, kP, vm₁, hnamed, hmethM, hcodeM, -, hlocalsM, -, hkP, -, hW₁, hstep₁⟩ := Steps.initColdArgsNest (e := e) X.here hexec X.warmed hpl hown hy1 hy hlink hinst hcode (f := g) rfl hlen hstack hdg
  have X₁ := X.noted hW₁
  rcases hK g.method meth c ⟨T.setVm vm₁, locs, cells, slots⟩ { g with stack := rest } (.invokespecial index) mk (Value.ref a :: argsL).toArray X₁ rfl hsize hdg hW (X₁.named hnamed) (hpre vm₁ X₁.warmed) with ⟨v, B, X', hpost, hsteps⟩ | ⟨q, B, X', hpost, hsteps⟩
  · exact Or.inl ⟨v, vm₁, B, X₁.warmed, X', hpost, fun target h => hstep₁ _ fun acts => by rw [doInvoke_state]; exact hsteps.trans h⟩
  · exact Or.inr ⟨q, vm₁, B, X₁.warmed, X', hpost, hstep₁ _ fun acts => by rw [doInvoke_state]; exact hsteps⟩
end VXIC
section VXID
variable {p : Program} {l : Launch} {e : Env} {R : Room} {s : State} {m : MethodId} {args : Array Value} {below : List Frame} {meth : Method} {c : Code} {H : Heap} {locs : List Loc} {cells slots : Nat}
theorem vx_runIN {y : MethodName} {bytes cc : ByteArray} {maxL nL mc ms n index : Nat} {ws : List Cond} {rm : Room} {Pc : Array Value → State → Prop} {Qc : Array Value → State → Outcome → State → Prop} {XC : String → State → State → Prop} {free : Addr → Prop} {Ts : List Cond} {own host : String} {b : Addr} {As rest : List Value} {g : JFrame}
    (S : CallFix p m c cc nL s args Ts own) (hM : vx_Met l y ws rm Pc Qc XC mc ms free) (cw : va_CN R s args own index y host bytes maxL none ws rm mc ms n ∧ y.name = "<init>" ∧ (Cond.instanceMethod y).before args s = true) (hp : PreS s H Pc (.ref b :: As))
    (hg : g.method = m) (hn : As.length = n) (hsize : g.locals.size = nL) (hstack : g.stack = As.reverse ++ .ref b :: rest) (hW : 2 * g.monitorRoom + (rest.map fun v => v.category).sum ≤ 8) (hdg : decode cc g.pc = .ok (.invokespecial index, 3)) (hf : cells + mc ≤ R.cells ∧ slots + ms ≤ R.slots) :
    vx_Run p l e R s m args below meth c H locs cells slots mc ms g rest (Qc (Value.ref b :: As).toArray) XC free := by
  obtain ⟨⟨⟨hrc, hrs, hfr, hlo, hws, hcw⟩, hcode, hini, hy, hlen, hl⟩, hx1, hx2⟩ := cw
  have hK : vx_Back l R p e below s args y 3 8 (PreOf R mc ms Pc) (PostOf Qc mc ms free) (vx_Post XC mc ms free) := vx_back (bytes := bytes) (maxL := maxL) (ret := none) hM hp.1 hrc hrs hfr hlo hws hcw (fun a' U hW => word_at hW (Or.inl (by first | rfl | simp [Cond.onTables, Cond.keeps, Cond.steady])) hini)
  obtain ⟨hx, hb, hml, ho, -⟩ := S
  have hPc := hp.2
  intro T hT X
  rcases vx_callIN X hx (bytes := bytes) (maxL := maxL) ho hx1 hl hx2 hcode hy hK hg (hsize.trans hml.symm) (a := b) (argsL := As) (rest := rest) (fun sig h => hn.trans (hlen sig h)) hstack hW (by rw [hb]; exact hdg)
    (fun vm₁ hW₁ => ⟨hf.1, hf.2, hPc (T.setVm vm₁) hT hW₁⟩) with ⟨v, vm₁, ⟨U', l2, c2, s2⟩, hW₁, X', ⟨g', mk, t, L, e1, e2, hq, h1, hL, h2, h3⟩, st⟩ | ⟨q, vm₁, ⟨U', l2, c2, s2⟩, hW₁, X', ⟨g', mk, t, L, E, ce, e1, e2, hq, hce, hcv, hcl, h1, hL, h2, h3⟩, st⟩
  · dsimp only [Pt.U, Pt.locs, Pt.cells, Pt.slots] at X' e1 e2 h1 h2 h3 st
    subst h1; subst h2; subst h3
    exact Or.inl ⟨v, (T.setVm vm₁).calling g' mk (Value.ref b :: As).toArray, t, U', L, hT, X', hL, e1, e2, hq, st⟩
  · dsimp only [Pt.U, Pt.locs, Pt.cells, Pt.slots] at X' e1 e2 h1 h2 h3 st hcl
    subst h1; subst h2; subst h3
    exact Or.inr ⟨q, (T.setVm vm₁).calling g' mk (Value.ref b :: As).toArray, t, U', L, E, ce, hT, X', hL, e1, e2, hq, hce, hcv, vx_cls hW₁ hcl, st⟩
end VXID
/-! ===== END ===== -/
/-! ===== BEGIN a method of a class above, found by the receiver, that may throw (follows va_callVU, va_runU of this kit) ===== -/
section
variable {p : Program} {l : Launch} {e : Env} {R : Room} {s : State} {m : MethodId} {args : Array Value} {below : List Frame} {meth : Method} {c : Code} {H : Heap} {locs : List Loc} {cells slots : Nat}
theorem vx_callVU {T : State} {locs : List Loc} {cells slots : Nat} (X : Stand p l e R s m args below meth c T locs cells slots) (hexec : p.tables.exec = Jvm.exec) {own C owner : String} {index : Nat} {x y : MethodName} {bytes : ByteArray} {maxL : Nat} {ret : Option FieldType}
    (hown : s.vm.findClass own = some m.cls) (hlink : (Cond.methodLink own index x).before args s = true) (hsame : (Cond.sameMethod x.cls owner x.name x.desc).before args s = true)
    (hd0 : va_Decl s ⟨owner, x.name, x.desc⟩) (howner : owner ≠ "java/lang/invoke/MethodHandle" ∧ owner ≠ "java/lang/invoke/VarHandle")
    (hsel : (Cond.selects C x y).before args s = true) (hinst : (Cond.instanceMethod y).before args s = true) (hcode : (Cond.code y bytes maxL ret).before args s = true)
    {W : Nat} {Pre : Pt → Array Value → Prop} {Post : Pt → Array Value → Option Value → Pt → Prop} {PostX : Pt → Array Value → Addr → Pt → Prop} (hK : vx_Back l R p e below s args y 3 W Pre Post PostX)
    {b : Addr} {cellB : Cell} (hcell : T.heap[b]? = some cellB) (hobj : cellB.vm.isStatics = false) (hcls : s.vm.findClass C = some cellB.cls)
    {g : JFrame} (hg : g.method = m) (hsize : g.locals.size = c.maxLocals) {argsL rest : List Value} (hlen : ∀ sig, parseMethodDescriptor x.desc = some sig → argsL.length = sig.parameters.length)
    (hstack : g.stack = argsL.reverse ++ .ref b :: rest) (hW : 2 * g.monitorRoom + (rest.map fun v => v.category).sum ≤ W) (hdg : decode c.code g.pc = .ok (.invokevirtual index, 3))
    (hpre : ∀ vm₁, s.WarmedH vm₁ → Pre ⟨T.setVm vm₁, locs, cells, slots⟩ (Value.ref b :: argsL).toArray) :
    (∃ (v : Option Value) (vm₁ : Vm) (B : Pt), s.WarmedH vm₁ ∧ Stand p l e R s m args below meth c B.U B.locs B.cells B.slots ∧ Post ⟨T.setVm vm₁, locs, cells, slots⟩ (Value.ref b :: argsL).toArray v B ∧
      ∀ target, Steps p.tables e below (B.U.setTop { g with pc := g.pc + 3, stack := v.toList ++ rest }) target → Steps p.tables e below (T.setTop g) target) ∨
    (∃ (q : Addr) (vm₁ : Vm) (B : Pt), s.WarmedH vm₁ ∧ Stand p l e R s m args below meth c B.U B.locs B.cells B.slots ∧ PostX ⟨T.setVm vm₁, locs, cells, slots⟩ (Value.ref b :: argsL).toArray q B ∧
      Steps p.tables e below (T.setTop g) ((B.U.setTop { g with stack := rest }).pushFrame (.throwing q))) := by
  obtain ⟨r0, r, hn, hrm, hstR, hsigR⟩ := hd0
  obtain ⟨cn, ck, r1, hcn, hck, hni, hf, hn1⟩ := Cond.sameMethod_found hsame
  cases hn.symm.trans hn1
  obtain ⟨mk, methM, hnamed, hmethM, -, habM⟩ := Cond.instanceMethod_spec hinst
  obtain ⟨c2, r2, m2, q1, q2, q3, q4, kP, hkP, hkPi⟩ := Cond.selects_spec hsel
  cases hcls.symm.trans q1
  cases hf.symm.trans q2
  cases hnamed.symm.trans q3
  have hselP : selectMethod e.platform s.vm cellB.cls r0 = .method mk := by rw [Launch.admits_selectMethod X.admits]; exact q4
  obtain ⟨vm₁, X₁, hstep₁⟩ := X.invokevirtualUp hexec hown hlink hsame howner hn hrm hstR (a := b) (cell := cellB) hcell
    (fun z h => by rw [h] at hobj; cases hobj) hselP hmethM habM hkP hkPi (g := g) hg (argsL := argsL) (rest := rest) (hlen _ hsigR) hstack hdg
  rcases hK m meth c ⟨T.setVm vm₁, locs, cells, slots⟩ { g with stack := rest } (.invokevirtual index) mk (Value.ref b :: argsL).toArray X₁ hg hsize hdg hW (X₁.named hnamed) (hpre vm₁ X₁.warmed) with ⟨v, B, X', hpost, hsteps⟩ | ⟨q, B, X', hpost, hsteps⟩
  · exact Or.inl ⟨v, vm₁, B, X₁.warmed, X', hpost, fun target h => hstep₁ _ fun acts => by rw [doInvoke_state]; exact hsteps.trans h⟩
  · exact Or.inr ⟨q, vm₁, B, X₁.warmed, X', hpost, hstep₁ _ fun acts => by rw [doInvoke_state]; exact hsteps⟩
theorem vx_runU {x y : MethodName} {bytes cc : ByteArray} {maxL nL mc ms n index : Nat} {ret : Option FieldType} {ws : List Cond} {rm : Room} {Pc : Array Value → State → Prop} {Qc : Array Value → State → Outcome → State → Prop} {XC : String → State → State → Prop} {free : Addr → Prop} {Ts : List Cond} {own C owner : String} {b : Addr} {As rest : List Value} {g : JFrame}
    (S : CallFix p m c cc nL s args Ts own) (hM : vx_Met l y ws rm Pc Qc XC mc ms free) (cw : va_CU R s args own C owner index x y bytes maxL ret ws rm mc ms n) (hp : PreV s H C b Pc As)
    (hg : g.method = m) (hn : As.length = n) (hsize : g.locals.size = nL) (hstack : g.stack = As.reverse ++ .ref b :: rest) (hW : 2 * g.monitorRoom + (rest.map fun v => v.category).sum ≤ 8) (hdg : decode cc g.pc = .ok (.invokevirtual index, 3)) (hf : cells + mc ≤ R.cells ∧ slots + ms ≤ R.slots) :
    vx_Run p l e R s m args below meth c H locs cells slots mc ms g rest (Qc (Value.ref b :: As).toArray) XC free := by
  obtain ⟨hrc, hrs, hfr, hlo, hws, hcw⟩ := cw.back
  have hini := cw.init
  have hK : vx_Back l R p e below s args y 3 8 (PreOf R mc ms Pc) (PostOf Qc mc ms free) (vx_Post XC mc ms free) := vx_back (bytes := bytes) (maxL := maxL) (ret := ret) hM hp.1 hrc hrs hfr hlo hws hcw (fun a' U hW => word_at hW (Or.inl (by first | rfl | simp [Cond.onTables, Cond.keeps, Cond.steady])) hini)
  obtain ⟨hx, hb, hml, ho, -⟩ := S
  obtain ⟨-, ⟨cellB, hcB, hoB, hclB⟩, hPc⟩ := hp
  intro T hT X
  rcases vx_callVU X hx (C := C) (owner := owner) (bytes := bytes) (maxL := maxL) (ret := ret) ho cw.link cw.same cw.decl cw.notMH cw.sel cw.inst cw.code hK (by rw [hT]; exact hcB) hoB hclB hg (hsize.trans hml.symm) (argsL := As) (rest := rest) (fun sig h => hn.trans (cw.len sig h)) hstack hW (by rw [hb]; exact hdg)
    (fun vm₁ hW₁ => ⟨hf.1, hf.2, hPc (T.setVm vm₁) hT hW₁⟩) with ⟨v, vm₁, ⟨U', l2, c2, s2⟩, hW₁, X', ⟨g', mk, t, L, e1, e2, hq, h1, hL, h2, h3⟩, st⟩ | ⟨q, vm₁, ⟨U', l2, c2, s2⟩, hW₁, X', ⟨g', mk, t, L, E, ce, e1, e2, hq, hce, hcv, hcl, h1, hL, h2, h3⟩, st⟩
  · dsimp only [Pt.U, Pt.locs, Pt.cells, Pt.slots] at X' e1 e2 h1 h2 h3 st
    subst h1; subst h2; subst h3
    exact Or.inl ⟨v, (T.setVm vm₁).calling g' mk (Value.ref b :: As).toArray, t, U', L, hT, X', hL, e1, e2, hq, st⟩
  · dsimp only [Pt.U, Pt.locs, Pt.cells, Pt.slots] at X' e1 e2 h1 h2 h3 st hcl
    subst h1; subst h2; subst h3
    exact Or.inr ⟨q, (T.setVm vm₁).calling g' mk (Value.ref b :: As).toArray, t, U', L, E, ce, hT, X', hL, e1, e2, hq, hce, hcv, vx_cls hW₁ hcl, st⟩
end
/-! ===== END ===== -/
/-! ===== BEGIN super.m(..) that may throw (follows va_callSU, va_runSU) ===== -/
section
variable {p : Program} {l : Launch} {e : Env} {R : Room} {s : State} {m : MethodId} {args : Array Value} {below : List Frame} {meth : Method} {c : Code} {H : Heap} {locs : List Loc} {cells slots : Nat}
theorem vx_callSU {T : State} {locs : List Loc} {cells slots : Nat} (X : Stand p l e R s m args below meth c T locs cells slots) (hexec : p.tables.exec = Jvm.exec) {own : String} {index : Nat} {y : MethodName} {bytes : ByteArray} {maxL : Nat} {ret : Option FieldType}
    (hown : s.vm.findClass own = some m.cls) (hlink : (Cond.methodLink own index y).before args s = true) (hsame : (Cond.sameMethod y.cls y.cls y.name y.desc).before args s = true) (hsup : (Cond.superclass own y.cls).before args s = true)
    (hinst : (Cond.instanceMethod y).before args s = true) (hcode : (Cond.code y bytes maxL ret).before args s = true) (hno : y.name ≠ "<init>")
    {W : Nat} {Pre : Pt → Array Value → Prop} {Post : Pt → Array Value → Option Value → Pt → Prop} {PostX : Pt → Array Value → Addr → Pt → Prop} (hK : vx_Back l R p e below s args y 3 W Pre Post PostX)
    {b : Addr} {cellB : Cell} {kB : Class} (hcell : T.heap[b]? = some cellB) (hobj : cellB.vm.isStatics = false) (hkB : s.vm.classes[cellB.cls]? = some kB)
    {g : JFrame} (hg : g.method = m) (hsize : g.locals.size = c.maxLocals) {argsL rest : List Value} (hlen : ∀ sig, parseMethodDescriptor y.desc = some sig → argsL.length = sig.parameters.length)
    (hstack : g.stack = argsL.reverse ++ .ref b :: rest) (hW : 2 * g.monitorRoom + (rest.map fun v => v.category).sum ≤ W) (hdg : decode c.code g.pc = .ok (.invokespecial index, 3))
    (hpre : ∀ vm₁, s.WarmedH vm₁ → Pre ⟨T.setVm vm₁, locs, cells, slots⟩ (Value.ref b :: argsL).toArray) :
    (∃ (v : Option Value) (vm₁ : Vm) (B : Pt), s.WarmedH vm₁ ∧ Stand p l e R s m args below meth c B.U B.locs B.cells B.slots ∧ Post ⟨T.setVm vm₁, locs, cells, slots⟩ (Value.ref b :: argsL).toArray v B ∧
      ∀ target, Steps p.tables e below (B.U.setTop { g with pc := g.pc + 3, stack := v.toList ++ rest }) target → Steps p.tables e below (T.setTop g) target) ∨
    (∃ (q : Addr) (vm₁ : Vm) (B : Pt), s.WarmedH vm₁ ∧ Stand p l e R s m args below meth c B.U B.locs B.cells B.slots ∧ PostX ⟨T.setVm vm₁, locs, cells, slots⟩ (Value.ref b :: argsL).toArray q B ∧
      Steps p.tables e below (T.setTop g) ((B.U.setTop { g with stack := rest }).pushFrame (.throwing q))) := by
  obtain ⟨mk, methM, hnamed, hmethM, hstM, habM⟩ := Cond.instanceMethod_spec hinst
  obtain ⟨methM', cM, hmethM', -, -, -, -, -, -, hsigM⟩ := Cond.code_spec hnamed hcode
  cases hmethM.symm.trans hmethM'
  obtain ⟨ps, dk, kp, hps, hdk, hkp, hsuper, -, -, hnid⟩ := Cond.superclass_spec hown hsup
  have hn : s.methodNamed? ⟨y.cls, y.name, y.desc⟩ = some mk := hnamed
  have hpm : ps = mk.cls := Option.some.inj (hps.symm.trans (findClass_of_methodNamed hnamed))
  have hsub : s.vm.isSubclass ps mk.cls = true := by rw [hpm]; simp [Vm.isSubclass, Vm.isSubclassAux]
  obtain ⟨vm₁, X₁, hstep₁⟩ := X.invokespecialUp hexec hown hlink hsame hn hmethM hstM habM hno hdk hnid hps hsuper hsub (a := b) (cell := cellB) hcell
    (fun z h => by rw [h] at hobj; cases hobj) hkB (g := g) hg (argsL := argsL) (rest := rest) (hlen _ hsigM) hstack hdg
  rcases hK m meth c ⟨T.setVm vm₁, locs, cells, slots⟩ { g with stack := rest } (.invokespecial index) mk (Value.ref b :: argsL).toArray X₁ hg hsize hdg hW (X₁.named hnamed) (hpre vm₁ X₁.warmed) with ⟨v, B, X', hpost, hsteps⟩ | ⟨q, B, X', hpost, hsteps⟩
  · exact Or.inl ⟨v, vm₁, B, X₁.warmed, X', hpost, fun target h => hstep₁ _ (by rw [doInvoke_state]; exact hsteps.trans h)⟩
  · exact Or.inr ⟨q, vm₁, B, X₁.warmed, X', hpost, hstep₁ _ (by rw [doInvoke_state]; exact hsteps)⟩
theorem vx_runSU {y : MethodName} {bytes cc : ByteArray} {maxL nL mc ms n index : Nat} {ret : Option FieldType} {ws : List Cond} {rm : Room} {Pc : Array Value → State → Prop} {Qc : Array Value → State → Outcome → State → Prop} {XC : String → State → State → Prop} {free : Addr → Prop} {Ts : List Cond} {own C : String} {cC : ClassId} {b : Addr} {As rest : List Value} {g : JFrame}
    (hat : ClassAt s C cC) (S : CallFix p m c cc nL s args Ts own) (hM : vx_Met l y ws rm Pc Qc XC mc ms free) (cw : va_CS R s args own index y bytes maxL ret ws rm mc ms n) (hp : PreV s H C b Pc As)
    (hg : g.method = m) (hn : As.length = n) (hsize : g.locals.size = nL) (hstack : g.stack = As.reverse ++ .ref b :: rest) (hW : 2 * g.monitorRoom + (rest.map fun v => v.category).sum ≤ 8) (hdg : decode cc g.pc = .ok (.invokespecial index, 3)) (hf : cells + mc ≤ R.cells ∧ slots + ms ≤ R.slots) :
    vx_Run p l e R s m args below meth c H locs cells slots mc ms g rest (Qc (Value.ref b :: As).toArray) XC free := by
  obtain ⟨⟨hrc, hrs, hfr, hlo, hws, hcw⟩, hl1, hl2, hl3, hl4, hini, hcode, hno, hlen⟩ := cw
  have hK : vx_Back l R p e below s args y 3 8 (PreOf R mc ms Pc) (PostOf Qc mc ms free) (vx_Post XC mc ms free) := vx_back (bytes := bytes) (maxL := maxL) (ret := ret) hM hp.1 hrc hrs hfr hlo hws hcw (fun a' U hW => word_at hW (Or.inl (by first | rfl | simp [Cond.onTables, Cond.keeps, Cond.steady])) hini)
  obtain ⟨hx, hb, hml, ho, -⟩ := S
  obtain ⟨-, ⟨cellB, hcB, hoB, hclB⟩, hPc⟩ := hp
  obtain ⟨hfc, kB, hkB, -⟩ := hat
  cases hfc.symm.trans hclB
  intro T hT X
  rcases vx_callSU X hx (bytes := bytes) (maxL := maxL) (ret := ret) ho hl1 hl2 hl3 hl4 hcode hno hK (by rw [hT]; exact hcB) hoB hkB hg (hsize.trans hml.symm) (argsL := As) (rest := rest) (fun sig h => hn.trans (hlen sig h)) hstack hW (by rw [hb]; exact hdg)
    (fun vm₁ hW₁ => ⟨hf.1, hf.2, hPc (T.setVm vm₁) hT hW₁⟩) with ⟨v, vm₁, ⟨U', l2, c2, s2⟩, hW₁, X', ⟨g', mk, t, L, e1, e2, hq, h1, hL, h2, h3⟩, st⟩ | ⟨q, vm₁, ⟨U', l2, c2, s2⟩, hW₁, X', ⟨g', mk, t, L, E, ce, e1, e2, hq, hce, hcv, hcl, h1, hL, h2, h3⟩, st⟩
  · dsimp only [Pt.U, Pt.locs, Pt.cells, Pt.slots] at X' e1 e2 h1 h2 h3 st
    subst h1; subst h2; subst h3
    exact Or.inl ⟨v, (T.setVm vm₁).calling g' mk (Value.ref b :: As).toArray, t, U', L, hT, X', hL, e1, e2, hq, st⟩
  · dsimp only [Pt.U, Pt.locs, Pt.cells, Pt.slots] at X' e1 e2 h1 h2 h3 st hcl
    subst h1; subst h2; subst h3
    exact Or.inr ⟨q, (T.setVm vm₁).calling g' mk (Value.ref b :: As).toArray, t, U', L, E, ce, hT, X', hL, e1, e2, hq, hce, hcv, vx_cls hW₁ hcl, st⟩
end
/-! ===== END ===== -/
/-! ===== BEGIN a private method of a nest mate that may throw (follows va_callVN, va_callSN, va_runVN, va_runSN) ===== -/
section
variable {p : Program} {l : Launch} {e : Env} {R : Room} {s : State} {m : MethodId} {args : Array Value} {below : List Frame} {meth : Method} {c : Code} {H : Heap} {locs : List Loc} {cells slots : Nat}
variable {T : State}
theorem vx_callVN (X : Stand p l e R s m args below meth c T locs cells slots) (hexec : p.tables.exec = Jvm.exec) {own C : String} {index : Nat} {host : String} {y : MethodName} {bytes : ByteArray} {maxL : Nat} {ret : Option FieldType}
    (hown : s.vm.findClass own = some m.cls) (hlink : (Cond.methodLinkNest own index y host).before args s = true) (hinst : (Cond.instanceMethod y).before args s = true) (hsel : (Cond.selects C y y).before args s = true)
    (hcode : (Cond.code y bytes maxL ret).before args s = true) (hy : y.cls ≠ "java/lang/invoke/MethodHandle" ∧ y.cls ≠ "java/lang/invoke/VarHandle")
    {W : Nat} {Pre : Pt → Array Value → Prop} {Post : Pt → Array Value → Option Value → Pt → Prop} {PostX : Pt → Array Value → Addr → Pt → Prop} (hK : vx_Back l R p e below s args y 3 W Pre Post PostX)
    {b : Addr} {cellB : Cell} (hcell : T.heap[b]? = some cellB) (hobj : cellB.vm.isStatics = false) (hcls : s.vm.findClass C = some cellB.cls)
    {g : JFrame} (hg : g.method = m) (hsize : g.locals.size = c.maxLocals) {argsL rest : List Value} (hlen : ∀ sig, parseMethodDescriptor y.desc = some sig → argsL.length = sig.parameters.length)
    (hstack : g.stack = argsL.reverse ++ .ref b :: rest) (hW : 2 * g.monitorRoom + (rest.map fun v => v.category).sum ≤ W) (hdg : decode c.code g.pc = .ok (.invokevirtual index, 3))
    (hpre : ∀ vm₁, s.WarmedH vm₁ → Pre ⟨T.setVm vm₁, locs, cells, slots⟩ (Value.ref b :: argsL).toArray) :
    (∃ (v : Option Value) (vm₁ : Vm) (B : Pt), s.WarmedH vm₁ ∧ Stand p l e R s m args below meth c B.U B.locs B.cells B.slots ∧ Post ⟨T.setVm vm₁, locs, cells, slots⟩ (Value.ref b :: argsL).toArray v B ∧
      ∀ target, Steps p.tables e below (B.U.setTop { g with pc := g.pc + 3, stack := v.toList ++ rest }) target → Steps p.tables e below (T.setTop g) target) ∨
    (∃ (q : Addr) (vm₁ : Vm) (B : Pt), s.WarmedH vm₁ ∧ Stand p l e R s m args below meth c B.U B.locs B.cells B.slots ∧ PostX ⟨T.setVm vm₁, locs, cells, slots⟩ (Value.ref b :: argsL).toArray q B ∧
      Steps p.tables e below (T.setTop g) ((B.U.setTop { g with stack := rest }).pushFrame (.throwing q))) := by
  obtain ⟨mk, methM, hnamed, hmethM, hstM, habM⟩ := Cond.instanceMethod_spec hinst
  obtain ⟨methM', cM, hmethM', -, -, -, -, -, -, hsigM⟩ := Cond.code_spec hnamed hcode
  cases hmethM.symm.trans hmethM'
  obtain ⟨c2, r2, m2, q1, q2, q3, q4, kP, hkP, hkPi⟩ := Cond.selects_spec hsel
  cases hcls.symm.trans q1
  cases (State.methodFound?_of_named hnamed hy).symm.trans q2
  cases hnamed.symm.trans q3
  have hselP : selectMethod e.platform s.vm cellB.cls mk = .method mk := by rw [Launch.admits_selectMethod X.admits]; exact q4
  obtain ⟨vm₁, X₁, hstep₁⟩ := X.invokevirtualNest hexec hown hlink hnamed hmethM hstM hkP hkPi hy (a := b) (cell := cellB) hcell
    (fun z h => by rw [h] at hobj; cases hobj) hselP hmethM habM hkP hkPi (g := g) hg (argsL := argsL) (rest := rest) (hlen _ hsigM) hstack hdg
  rcases hK m meth c ⟨T.setVm vm₁, locs, cells, slots⟩ { g with stack := rest } (.invokevirtual index) mk (Value.ref b :: argsL).toArray X₁ hg hsize hdg hW (X₁.named hnamed) (hpre vm₁ X₁.warmed) with ⟨v, B, X', hpost, hsteps⟩ | ⟨q, B, X', hpost, hsteps⟩
  · exact Or.inl ⟨v, vm₁, B, X₁.warmed, X', hpost, fun target h => hstep₁ _ fun acts => by rw [doInvoke_state]; exact hsteps.trans h⟩
  · exact Or.inr ⟨q, vm₁, B, X₁.warmed, X', hpost, hstep₁ _ fun acts => by rw [doInvoke_state]; exact hsteps⟩
theorem vx_callSN (X : Stand p l e R s m args below meth c T locs cells slots) (hexec : p.tables.exec = Jvm.exec) {own : String} {index : Nat} {host : String} {y : MethodName} {bytes : ByteArray} {maxL : Nat} {ret : Option FieldType}
    (hown : s.vm.findClass own = some m.cls) (hlink : (Cond.methodLinkNest own index y host).before args s = true) (hstat : (Cond.static y).before args s = true) (hinit : (Cond.initialized y.cls).before args s = true)
    (hcode : (Cond.code y bytes maxL ret).before args s = true) (hy : y.cls ≠ "java/lang/invoke/MethodHandle" ∧ y.cls ≠ "java/lang/invoke/VarHandle")
    {W : Nat} {Pre : Pt → Array Value → Prop} {Post : Pt → Array Value → Option Value → Pt → Prop} {PostX : Pt → Array Value → Addr → Pt → Prop} (hK : vx_Back l R p e below s args y 3 W Pre Post PostX)
    {g : JFrame} (hg : g.method = m) (hsize : g.locals.size = c.maxLocals) {argsL rest : List Value} (hlen : ∀ sig, parseMethodDescriptor y.desc = some sig → argsL.length = sig.parameters.length)
    (hstack : g.stack = argsL.reverse ++ rest) (hW : 2 * g.monitorRoom + (rest.map fun v => v.category).sum ≤ W) (hdg : decode c.code g.pc = .ok (.invokestatic index, 3))
    (hpre : ∀ vm₁, s.WarmedH vm₁ → Pre ⟨T.setVm vm₁, locs, cells, slots⟩ argsL.toArray) :
    (∃ (v : Option Value) (vm₁ : Vm) (B : Pt), s.WarmedH vm₁ ∧ Stand p l e R s m args below meth c B.U B.locs B.cells B.slots ∧ Post ⟨T.setVm vm₁, locs, cells, slots⟩ argsL.toArray v B ∧
      ∀ target, Steps p.tables e below (B.U.setTop { g with pc := g.pc + 3, stack := v.toList ++ rest }) target → Steps p.tables e below (T.setTop g) target) ∨
    (∃ (q : Addr) (vm₁ : Vm) (B : Pt), s.WarmedH vm₁ ∧ Stand p l e R s m args below meth c B.U B.locs B.cells B.slots ∧ PostX ⟨T.setVm vm₁, locs, cells, slots⟩ argsL.toArray q B ∧
      Steps p.tables e below (T.setTop g) ((B.U.setTop { g with stack := rest }).pushFrame (.throwing q))) := by
  obtain ⟨mk, hnamed⟩ := Cond.code_named hcode
  obtain ⟨methM, cM, hmethM, -, -, -, -, -, -, hsigM⟩ := Cond.code_spec hnamed hcode
  have hstatic : methM.isStatic = true := Cond.static_spec hnamed hmethM hstat
  obtain ⟨kP, hkP, -⟩ := className_of_methodNamed hnamed
  have hinitP : kP.init = .initialized := Cond.initialized_spec (findClass_of_methodNamed hnamed) hkP hinit
  obtain ⟨vm₁, X₁, hstep₁⟩ := X.invokestaticNest hexec hown hlink hnamed hmethM hstatic hkP hinitP hy (g := g) hg (argsL := argsL) (rest := rest) (hlen _ hsigM) hstack hdg
  rcases hK m meth c ⟨T.setVm vm₁, locs, cells, slots⟩ { g with stack := rest } (.invokestatic index) mk argsL.toArray X₁ hg hsize hdg hW (X₁.named hnamed) (hpre vm₁ X₁.warmed) with ⟨v, B, X', hpost, hsteps⟩ | ⟨q, B, X', hpost, hsteps⟩
  · exact Or.inl ⟨v, vm₁, B, X₁.warmed, X', hpost, fun target h => hstep₁ _ fun acts => by rw [doInvoke_state]; exact hsteps.trans h⟩
  · exact Or.inr ⟨q, vm₁, B, X₁.warmed, X', hpost, hstep₁ _ fun acts => by rw [doInvoke_state]; exact hsteps⟩
theorem vx_runVN {y : MethodName} {bytes cc : ByteArray} {maxL nL mc ms n index : Nat} {ret : Option FieldType} {ws : List Cond} {rm : Room} {Pc : Array Value → State → Prop} {Qc : Array Value → State → Outcome → State → Prop} {XC : String → State → State → Prop} {free : Addr → Prop} {Ts : List Cond} {own C host : String} {b : Addr} {As rest : List Value} {g : JFrame}
    (S : CallFix p m c cc nL s args Ts own) (hM : vx_Met l y ws rm Pc Qc XC mc ms free) (cw : va_CN R s args own index y host bytes maxL ret ws rm mc ms n ∧ (Cond.instanceMethod y).before args s = true ∧ (Cond.selects C y y).before args s = true) (hp : PreV s H C b Pc As)
    (hg : g.method = m) (hn : As.length = n) (hsize : g.locals.size = nL) (hstack : g.stack = As.reverse ++ .ref b :: rest) (hW : 2 * g.monitorRoom + (rest.map fun v => v.category).sum ≤ 8) (hdg : decode cc g.pc = .ok (.invokevirtual index, 3)) (hf : cells + mc ≤ R.cells ∧ slots + ms ≤ R.slots) :
    vx_Run p l e R s m args below meth c H locs cells slots mc ms g rest (Qc (Value.ref b :: As).toArray) XC free := by
  obtain ⟨⟨⟨hrc, hrs, hfr, hlo, hws, hcw⟩, hcode, hini, hy, hlen, hl⟩, hx1, hx2⟩ := cw
  have hK : vx_Back l R p e below s args y 3 8 (PreOf R mc ms Pc) (PostOf Qc mc ms free) (vx_Post XC mc ms free) := vx_back (bytes := bytes) (maxL := maxL) (ret := ret) hM hp.1 hrc hrs hfr hlo hws hcw (fun a' U hW => word_at hW (Or.inl (by first | rfl | simp [Cond.onTables, Cond.keeps, Cond.steady])) hini)
  obtain ⟨hx, hb, hml, ho, -⟩ := S
  obtain ⟨-, ⟨cellB, hcB, hoB, hclB⟩, hPc⟩ := hp
  intro T hT X
  rcases vx_callVN X hx (C := C) (bytes := bytes) (maxL := maxL) (ret := ret) ho hl hx1 hx2 hcode hy hK (by rw [hT]; exact hcB) hoB hclB hg (hsize.trans hml.symm) (argsL := As) (rest := rest) (fun sig h => hn.trans (hlen sig h)) hstack hW (by rw [hb]; exact hdg)
    (fun vm₁ hW₁ => ⟨hf.1, hf.2, hPc (T.setVm vm₁) hT hW₁⟩) with ⟨v, vm₁, ⟨U', l2, c2, s2⟩, hW₁, X', ⟨g', mk, t, L, e1, e2, hq, h1, hL, h2, h3⟩, st⟩ | ⟨q, vm₁, ⟨U', l2, c2, s2⟩, hW₁, X', ⟨g', mk, t, L, E, ce, e1, e2, hq, hce, hcv, hcl, h1, hL, h2, h3⟩, st⟩
  · dsimp only [Pt.U, Pt.locs, Pt.cells, Pt.slots] at X' e1 e2 h1 h2 h3 st
    subst h1; subst h2; subst h3
    exact Or.inl ⟨v, (T.setVm vm₁).calling g' mk (Value.ref b :: As).toArray, t, U', L, hT, X', hL, e1, e2, hq, st⟩
  · dsimp only [Pt.U, Pt.locs, Pt.cells, Pt.slots] at X' e1 e2 h1 h2 h3 st hcl
    subst h1; subst h2; subst h3
    exact Or.inr ⟨q, (T.setVm vm₁).calling g' mk (Value.ref b :: As).toArray, t, U', L, E, ce, hT, X', hL, e1, e2, hq, hce, hcv, vx_cls hW₁ hcl, st⟩
theorem vx_runSN {y : MethodName} {bytes cc : ByteArray} {maxL nL mc ms n index : Nat} {ret : Option FieldType} {ws : List Cond} {rm : Room} {Pc : Array Value → State → Prop} {Qc : Array Value → State → Outcome → State → Prop} {XC : String → State → State → Prop} {free : Addr → Prop} {Ts : List Cond} {own host : String} {As rest : List Value} {g : JFrame}
    (S : CallFix p m c cc nL s args Ts own) (hM : vx_Met l y ws rm Pc Qc XC mc ms free) (cw : va_CN R s args own index y host bytes maxL ret ws rm mc ms n ∧ (Cond.static y).before args s = true ∧ True) (hp : PreS s H Pc As)
    (hg : g.method = m) (hn : As.length = n) (hsize : g.locals.size = nL) (hstack : g.stack = As.reverse ++ rest) (hW : 2 * g.monitorRoom + (rest.map fun v => v.category).sum ≤ 8) (hdg : decode cc g.pc = .ok (.invokestatic index, 3)) (hf : cells + mc ≤ R.cells ∧ slots + ms ≤ R.slots) :
    vx_Run p l e R s m args below meth c H locs cells slots mc ms g rest (Qc As.toArray) XC free := by
  obtain ⟨⟨⟨hrc, hrs, hfr, hlo, hws, hcw⟩, hcode, hini, hy, hlen, hl⟩, hx1, hx2⟩ := cw
  have hK : vx_Back l R p e below s args y 3 8 (PreOf R mc ms Pc) (PostOf Qc mc ms free) (vx_Post XC mc ms free) := vx_back (bytes := bytes) (maxL := maxL) (ret := ret) hM hp.1 hrc hrs hfr hlo hws hcw (fun a' U hW => word_at hW (Or.inl (by first | rfl | simp [Cond.onTables, Cond.keeps, Cond.steady])) hini)
  obtain ⟨hx, hb, hml, ho, -⟩ := S
  have hPc := hp.2
  intro T hT X
  rcases vx_callSN X hx (bytes := bytes) (maxL := maxL) (ret := ret) ho hl hx1 hini hcode hy hK hg (hsize.trans hml.symm) (argsL := As) (rest := rest) (fun sig h => hn.trans (hlen sig h)) hstack hW (by rw [hb]; exact hdg)
    (fun vm₁ hW₁ => ⟨hf.1, hf.2, hPc (T.setVm vm₁) hT hW₁⟩) with ⟨v, vm₁, ⟨U', l2, c2, s2⟩, hW₁, X', ⟨g', mk, t, L, e1, e2, hq, h1, hL, h2, h3⟩, st⟩ | ⟨q, vm₁, ⟨U', l2, c2, s2⟩, hW₁, X', ⟨g', mk, t, L, E, ce, e1, e2, hq, hce, hcv, hcl, h1, hL, h2, h3⟩, st⟩
  · dsimp only [Pt.U, Pt.locs, Pt.cells, Pt.slots] at X' e1 e2 h1 h2 h3 st
    subst h1; subst h2; subst h3
    exact Or.inl ⟨v, (T.setVm vm₁).calling g' mk As.toArray, t, U', L, hT, X', hL, e1, e2, hq, st⟩
  · dsimp only [Pt.U, Pt.locs, Pt.cells, Pt.slots] at X' e1 e2 h1 h2 h3 st hcl
    subst h1; subst h2; subst h3
    exact Or.inr ⟨q, (T.setVm vm₁).calling g' mk As.toArray, t, U', L, E, ce, hT, X', hL, e1, e2, hq, hce, hcv, vx_cls hW₁ hcl, st⟩
end
/-! ===== END ===== -/
/-! ===== BEGIN calls by an interface of methods that may throw (vx_callIF, vx_runF follow va_callIF, va_runF of this kit) ===== -/
section
variable {p : Program} {l : Launch} {e : Env} {R : Room} {s : State} {m : MethodId} {args : Array Value} {below : List Frame} {meth : Method} {c : Code} {H : Heap} {locs : List Loc} {cells slots : Nat} {Q : State → Prop}
variable {mc ms : Nat} {free : Addr → Prop} {A0 A1 : Nat → Prop} {H0 : Heap} {a : Array Value} {pc : Nat} {ls : Array Slot} {st0 rest : List Value}
def vx_Run5 (p : Program) (l : Launch) (e : Env) (R : Room) (s : State) (m : MethodId) (args : Array Value) (below : List Frame) (meth : Method) (c : Code) (H : Heap) (locs : List Loc) (cells slots mc ms : Nat) (g : JFrame) (rest : List Value) (Qa : State → Outcome → State → Prop) (XC : String → State → State → Prop) (free : Addr → Prop) : Prop :=
  ∀ T : State, T.heap = H → Stand p l e R s m args below meth c T locs cells slots →
    (∃ (v : Option Value) (st₀ t T' : State) (L : List Loc), st₀.heap = H ∧ Stand p l e R s m args below meth c T' (locs ++ L) (cells + mc) (slots + ms) ∧ (∀ q ∈ L, free q.base) ∧ T'.heap = t.heap ∧ T'.vm = t.vm ∧ Qa st₀ (.returned v) t ∧
      Goes p e below T g T' { g with pc := g.pc + 5, stack := v.toList ++ rest }) ∨
    (∃ (q : Addr) (st₀ t T' : State) (L : List Loc) (E : String) (ce : Cell), st₀.heap = H ∧ Stand p l e R s m args below meth c T' (locs ++ L) (cells + mc) (slots + ms) ∧ (∀ z ∈ L, free z.base) ∧ T'.heap = t.heap ∧ T'.vm = t.vm ∧ XC E st₀ t ∧ t.heap[q]? = some ce ∧ ce.vm = .none ∧ s.vm.findClass E = some ce.cls ∧
      Steps p.tables e below (T.setTop g) ((T'.setTop { g with stack := rest }).pushFrame (.throwing q)))
theorem vx_callIF {T : State} (X : Stand p l e R s m args below meth c T locs cells slots) (hexec : p.tables.exec = Jvm.exec) {own C : String} {index count : Nat} {x y : MethodName} {bytes : ByteArray} {maxL : Nat} {ret : Option FieldType}
    (hown : s.vm.findClass own = some m.cls) (hlink : (Cond.methodLink own index x).before args s = true) (hdecl : (Cond.declares x).before args s = true) (hface : (Cond.interfaceMethod x.cls x.cls x.name x.desc).before args s = true)
    (hsel : (Cond.selects C x y).before args s = true) (hinst : (Cond.instanceMethod y).before args s = true) (hpub : (Cond.publicMethod y).before args s = true) (hunh : (Cond.unhidden C x.name x.desc).before args s = true)
    (hcast : (Cond.castable C x.cls).before args s = true) (hcode : (Cond.code y bytes maxL ret).before args s = true) (hx : x.cls ≠ "java/lang/invoke/MethodHandle" ∧ x.cls ≠ "java/lang/invoke/VarHandle")
    {W9 : Nat} {Pre : Pt → Array Value → Prop} {Post : Pt → Array Value → Option Value → Pt → Prop} {PostX : Pt → Array Value → Addr → Pt → Prop} (hK : vx_Back l R p e below s args y 5 W9 Pre Post PostX)
    {b : Addr} {cellB : Cell} {kB : Class} (hcell : T.heap[b]? = some cellB) (hobj : cellB.vm.isStatics = false) (hcls : s.vm.findClass C = some cellB.cls) (hkB : s.vm.classes[cellB.cls]? = some kB)
    {g : JFrame} (hg : g.method = m) (hsize : g.locals.size = c.maxLocals) {argsL rest : List Value} (hlen : ∀ sig, parseMethodDescriptor x.desc = some sig → argsL.length = sig.parameters.length)
    (hstack : g.stack = argsL.reverse ++ .ref b :: rest) (hW : 2 * g.monitorRoom + (rest.map fun v => v.category).sum ≤ W9) (hdg : decode c.code g.pc = .ok (.invokeinterface index count, 5))
    (hpre : ∀ vm₁, s.WarmedH vm₁ → Pre ⟨T.setVm vm₁, locs, cells, slots⟩ (Value.ref b :: argsL).toArray) :
    (∃ (v : Option Value) (vm₁ : Vm) (B : Pt), s.WarmedH vm₁ ∧ Stand p l e R s m args below meth c B.U B.locs B.cells B.slots ∧ Post ⟨T.setVm vm₁, locs, cells, slots⟩ (Value.ref b :: argsL).toArray v B ∧
      ∀ target, Steps p.tables e below (B.U.setTop { g with pc := g.pc + 5, stack := v.toList ++ rest }) target → Steps p.tables e below (T.setTop g) target) ∨
    (∃ (q : Addr) (vm₁ : Vm) (B : Pt), s.WarmedH vm₁ ∧ Stand p l e R s m args below meth c B.U B.locs B.cells B.slots ∧ PostX ⟨T.setVm vm₁, locs, cells, slots⟩ (Value.ref b :: argsL).toArray q B ∧
      Steps p.tables e below (T.setTop g) ((B.U.setTop { g with stack := rest }).pushFrame (.throwing q))) := by
  obtain ⟨r0, r, hn, hrm, hstR, hsigR⟩ := Cond.declares_spec hdecl
  obtain ⟨cL, kL, r1, hcL, hkL, hiL, hfoundL, hn1⟩ := Cond.interfaceMethod_spec hface
  cases hn.symm.trans hn1
  have hr0cls : r0.cls = cL := Option.some.inj ((findClass_of_methodNamed hn).symm.trans hcL)
  obtain ⟨hnameR, hdescR⟩ := name_of_methodNamed hn hrm
  obtain ⟨mk, methM, hnamed, hmethM, -, habM⟩ := Cond.instanceMethod_spec hinst
  obtain ⟨c2, r2, m2, q1, q2, q3, q4, -⟩ := Cond.selects_spec hsel
  cases hcls.symm.trans q1
  cases hfoundL.symm.trans q2
  cases hnamed.symm.trans q3
  have hselP : selectMethod e.platform s.vm cellB.cls r0 = .method mk := by rw [Launch.admits_selectMethod X.admits]; exact q4
  have hpubM : hasFlag methM.accessFlags Acc.public_ = true := Cond.publicMethod_spec hnamed hmethM hpub
  have hway : ((cellB.cls :: s.vm.superclasses cellB.cls).any fun k => (declaredIn s.vm r.name r.desc k).any fun (_, z) => z.isPrivate || z.isStatic) = false := by
    rw [hnameR, hdescR]; exact Cond.unhidden_spec hcls hunh
  obtain ⟨c3, t3, w1, w2, w3⟩ := Cond.castable_spec hcast
  cases hcls.symm.trans w1
  cases hcL.symm.trans w2
  obtain ⟨vm₁, X₁, hstep₁⟩ := X.invokeinterface hexec hown hlink hn hrm hstR (by rw [hr0cls]; exact hkL) hiL hx (a := b) (cell := cellB) (kcell := kB) hcell
    (fun z h => by rw [h] at hobj; cases hobj) hkB (by rw [hr0cls]; exact w3) hselP hmethM hway hpubM habM (g := g) hg (argsL := argsL) (rest := rest) (hlen _ hsigR) hstack hdg
  rcases hK m meth c ⟨T.setVm vm₁, locs, cells, slots⟩ { g with stack := rest } (.invokeinterface index count) mk (Value.ref b :: argsL).toArray X₁ hg hsize hdg hW (X₁.named hnamed) (hpre vm₁ X₁.warmed) with ⟨v, B, X', hpost, hsteps⟩ | ⟨q, B, X', hpost, hsteps⟩
  · exact Or.inl ⟨v, vm₁, B, X₁.warmed, X', hpost, fun target h => hstep₁ _ fun acts => by rw [doInvoke_state]; exact hsteps.trans h⟩
  · exact Or.inr ⟨q, vm₁, B, X₁.warmed, X', hpost, hstep₁ _ fun acts => by rw [doInvoke_state]; exact hsteps⟩
theorem vx_runF {x y : MethodName} {bytes cc : ByteArray} {maxL nL mc ms n index count : Nat} {ret : Option FieldType} {ws : List Cond} {rm : Room} {Pc : Array Value → State → Prop} {Qc : Array Value → State → Outcome → State → Prop} {XC : String → State → State → Prop} {free : Addr → Prop} {Ts : List Cond} {own C : String} {cC : ClassId} {b : Addr} {As rest : List Value} {g : JFrame}
    (hat : ClassAt s C cC) (S : CallFix p m c cc nL s args Ts own) (hM : vx_Met l y ws rm Pc Qc XC mc ms free) (cw : va_CI R s args own C index x y bytes maxL ret ws rm mc ms n) (hp : PreV s H C b Pc As)
    (hg : g.method = m) (hn : As.length = n) (hsize : g.locals.size = nL) (hstack : g.stack = As.reverse ++ .ref b :: rest) (hW : 2 * g.monitorRoom + (rest.map fun v => v.category).sum ≤ 8) (hdg : decode cc g.pc = .ok (.invokeinterface index count, 5)) (hf : cells + mc ≤ R.cells ∧ slots + ms ≤ R.slots) :
    vx_Run5 p l e R s m args below meth c H locs cells slots mc ms g rest (Qc (Value.ref b :: As).toArray) XC free := by
  obtain ⟨hrc, hrs, hfr, hlo, hws, hcw⟩ := cw.back
  have hini := cw.init
  have hK : vx_Back l R p e below s args y 5 8 (PreOf R mc ms Pc) (PostOf Qc mc ms free) (vx_Post XC mc ms free) := vx_back (bytes := bytes) (maxL := maxL) (ret := ret) hM hp.1 hrc hrs hfr hlo hws hcw (fun a' U hW => word_at hW (Or.inl (by first | rfl | simp [Cond.onTables, Cond.keeps, Cond.steady])) hini)
  obtain ⟨hx, hb, hml, ho, -⟩ := S
  obtain ⟨-, ⟨cellB, hcB, hoB, hclB⟩, hPc⟩ := hp
  obtain ⟨hfc, kB, hkB, -⟩ := hat
  cases hfc.symm.trans hclB
  intro T hT X
  rcases vx_callIF X hx (C := C) (bytes := bytes) (maxL := maxL) (ret := ret) ho cw.link cw.decl cw.face cw.sel cw.inst cw.pub cw.unh cw.cast cw.code cw.notMH hK (by rw [hT]; exact hcB) hoB hclB hkB hg (hsize.trans hml.symm) (argsL := As) (rest := rest) (fun sig h => hn.trans (cw.len sig h)) hstack hW (by rw [hb]; exact hdg)
    (fun vm₁ hW₁ => ⟨hf.1, hf.2, hPc (T.setVm vm₁) hT hW₁⟩) with ⟨v, vm₁, ⟨U', l2, c2, s2⟩, hW₁, X', ⟨g', mk, t, L, e1, e2, hq, h1, hL, h2, h3⟩, st⟩ | ⟨q, vm₁, ⟨U', l2, c2, s2⟩, hW₁, X', ⟨g', mk, t, L, E, ce, e1, e2, hq, hce, hcv, hcl, h1, hL, h2, h3⟩, st⟩
  · dsimp only [Pt.U, Pt.locs, Pt.cells, Pt.slots] at X' e1 e2 h1 h2 h3 st
    subst h1; subst h2; subst h3
    exact Or.inl ⟨v, (T.setVm vm₁).calling g' mk (Value.ref b :: As).toArray, t, U', L, hT, X', hL, e1, e2, hq, st⟩
  · dsimp only [Pt.U, Pt.locs, Pt.cells, Pt.slots] at X' e1 e2 h1 h2 h3 st hcl
    subst h1; subst h2; subst h3
    exact Or.inr ⟨q, (T.setVm vm₁).calling g' mk (Value.ref b :: As).toArray, t, U', L, E, ce, hT, X', hL, e1, e2, hq, hce, hcv, vx_cls hW₁ hcl, st⟩
theorem vx_callFv {S SX : Type} {post : S → Prop} {px : SX → Prop} {B : S → State → Prop} {BX : String → SX → State → Prop} {AX : Nat → Prop} (hr : vx_Run5 p l e R s m args below meth c H locs cells slots mc ms (F0 m pc ls st0) rest (va_Qv post B A1 a) (vx_X px BX AX) free) (hS : va_S A0 H0 H locs) (hA : ∀ q, q < H.size → A1 q → A0 q) (hf : ∀ q, free q → A0 q) (hAX : ∀ q, q < H.size → AX q → A0 q)
    (kx : ∀ (E : String) (ce : Cell) (q9 : Addr) (u : SX) (t : State) (H1 : Heap) (locs1 : List Loc), t.heap = H1 → s.vm.Alike t.vm → px u → BX E u t → H.size ≤ H1.size → (∀ q : Nat, q < H.size → ¬ AX q → H1[q]? = H[q]?) → va_S A0 H0 H1 locs1 → H1[q9]? = some ce → ce.vm = .none → s.vm.findClass E = some ce.cls → vx_W p l e R s m args below meth c H1 locs1 (cells + mc) (slots + ms) Q (F0 m pc ls rest) q9)
    (kk : ∀ (u : S) (t : State) (H1 : Heap) (locs1 : List Loc), t.heap = H1 → s.vm.Alike t.vm → post u → B u t → H.size ≤ H1.size → (∀ q : Nat, q < H.size → ¬ A1 q → H1[q]? = H[q]?) → va_S A0 H0 H1 locs1 → W p l e R s m args below meth c H1 locs1 (cells + mc) (slots + ms) Q (F0 m (pc + 5) ls (rest))) : W p l e R s m args below meth c H locs cells slots Q (F0 m pc ls st0) := by
  intro T hT X
  rcases hr T hT X with ⟨v, st₀, t, T', L, h0, X', hL, e1, e2, ⟨⟨u, hv, hp, hb⟩, hF⟩, st⟩ | ⟨q, st₀, t, T', L, E, ce, h0, X', hL, e1, e2, ⟨u, hp, hb, hF⟩, hce, hcv, hcl, st⟩
  · cases hv
    obtain ⟨k1, k2, k3⟩ := vx_keep h0 e1 hS hA hf hL hF
    obtain ⟨t2, a1, b1⟩ := kk u t T'.heap (locs ++ L) e1.symm (by rw [← e2]; exact X'.warmed.alike) hp hb k1 k2 k3 T' rfl X'
    exact ⟨t2, st t2 a1, b1⟩
  · obtain ⟨k1, k2, k3⟩ := vx_keep h0 e1 hS hAX hf hL hF
    obtain ⟨t2, a1, b1⟩ := kx E ce q u t T'.heap (locs ++ L) e1.symm (by rw [← e2]; exact X'.warmed.alike) hp hb k1 k2 k3 (by rw [e1]; exact hce) hcv hcl T' rfl X'
    exact ⟨t2, st.trans a1, b1⟩
theorem vx_callFi {S SX : Type} {post : Int32 → S → Prop} {px : SX → Prop} {B : S → State → Prop} {BX : String → SX → State → Prop} {AX : Nat → Prop} (hr : vx_Run5 p l e R s m args below meth c H locs cells slots mc ms (F0 m pc ls st0) rest (va_Qi post B A1 a) (vx_X px BX AX) free) (hS : va_S A0 H0 H locs) (hA : ∀ q, q < H.size → A1 q → A0 q) (hf : ∀ q, free q → A0 q) (hAX : ∀ q, q < H.size → AX q → A0 q)
    (kx : ∀ (E : String) (ce : Cell) (q9 : Addr) (u : SX) (t : State) (H1 : Heap) (locs1 : List Loc), t.heap = H1 → s.vm.Alike t.vm → px u → BX E u t → H.size ≤ H1.size → (∀ q : Nat, q < H.size → ¬ AX q → H1[q]? = H[q]?) → va_S A0 H0 H1 locs1 → H1[q9]? = some ce → ce.vm = .none → s.vm.findClass E = some ce.cls → vx_W p l e R s m args below meth c H1 locs1 (cells + mc) (slots + ms) Q (F0 m pc ls rest) q9)
    (kk : ∀ (r : Int32) (u : S) (t : State) (H1 : Heap) (locs1 : List Loc), t.heap = H1 → s.vm.Alike t.vm → post r u → B u t → H.size ≤ H1.size → (∀ q : Nat, q < H.size → ¬ A1 q → H1[q]? = H[q]?) → va_S A0 H0 H1 locs1 → W p l e R s m args below meth c H1 locs1 (cells + mc) (slots + ms) Q (F0 m (pc + 5) ls (.int r :: rest))) : W p l e R s m args below meth c H locs cells slots Q (F0 m pc ls st0) := by
  intro T hT X
  rcases hr T hT X with ⟨v, st₀, t, T', L, h0, X', hL, e1, e2, ⟨⟨r, u, hv, hp, hb⟩, hF⟩, st⟩ | ⟨q, st₀, t, T', L, E, ce, h0, X', hL, e1, e2, ⟨u, hp, hb, hF⟩, hce, hcv, hcl, st⟩
  · cases hv
    obtain ⟨k1, k2, k3⟩ := vx_keep h0 e1 hS hA hf hL hF
    obtain ⟨t2, a1, b1⟩ := kk r u t T'.heap (locs ++ L) e1.symm (by rw [← e2]; exact X'.warmed.alike) hp hb k1 k2 k3 T' rfl X'
    exact ⟨t2, st t2 a1, b1⟩
  · obtain ⟨k1, k2, k3⟩ := vx_keep h0 e1 hS hAX hf hL hF
    obtain ⟨t2, a1, b1⟩ := kx E ce q u t T'.heap (locs ++ L) e1.symm (by rw [← e2]; exact X'.warmed.alike) hp hb k1 k2 k3 (by rw [e1]; exact hce) hcv hcl T' rfl X'
    exact ⟨t2, st.trans a1, b1⟩
theorem vx_callFl {S SX : Type} {post : Int64 → S → Prop} {px : SX → Prop} {B : S → State → Prop} {BX : String → SX → State → Prop} {AX : Nat → Prop} (hr : vx_Run5 p l e R s m args below meth c H locs cells slots mc ms (F0 m pc ls st0) rest (va_Ql post B A1 a) (vx_X px BX AX) free) (hS : va_S A0 H0 H locs) (hA : ∀ q, q < H.size → A1 q → A0 q) (hf : ∀ q, free q → A0 q) (hAX : ∀ q, q < H.size → AX q → A0 q)
    (kx : ∀ (E : String) (ce : Cell) (q9 : Addr) (u : SX) (t : State) (H1 : Heap) (locs1 : List Loc), t.heap = H1 → s.vm.Alike t.vm → px u → BX E u t → H.size ≤ H1.size → (∀ q : Nat, q < H.size → ¬ AX q → H1[q]? = H[q]?) → va_S A0 H0 H1 locs1 → H1[q9]? = some ce → ce.vm = .none → s.vm.findClass E = some ce.cls → vx_W p l e R s m args below meth c H1 locs1 (cells + mc) (slots + ms) Q (F0 m pc ls rest) q9)
    (kk : ∀ (r : Int64) (u : S) (t : State) (H1 : Heap) (locs1 : List Loc), t.heap = H1 → s.vm.Alike t.vm → post r u → B u t → H.size ≤ H1.size → (∀ q : Nat, q < H.size → ¬ A1 q → H1[q]? = H[q]?) → va_S A0 H0 H1 locs1 → W p l e R s m args below meth c H1 locs1 (cells + mc) (slots + ms) Q (F0 m (pc + 5) ls (.long r :: rest))) : W p l e R s m args below meth c H locs cells slots Q (F0 m pc ls st0) := by
  intro T hT X
  rcases hr T hT X with ⟨v, st₀, t, T', L, h0, X', hL, e1, e2, ⟨⟨r, u, hv, hp, hb⟩, hF⟩, st⟩ | ⟨q, st₀, t, T', L, E, ce, h0, X', hL, e1, e2, ⟨u, hp, hb, hF⟩, hce, hcv, hcl, st⟩
  · cases hv
    obtain ⟨k1, k2, k3⟩ := vx_keep h0 e1 hS hA hf hL hF
    obtain ⟨t2, a1, b1⟩ := kk r u t T'.heap (locs ++ L) e1.symm (by rw [← e2]; exact X'.warmed.alike) hp hb k1 k2 k3 T' rfl X'
    exact ⟨t2, st t2 a1, b1⟩
  · obtain ⟨k1, k2, k3⟩ := vx_keep h0 e1 hS hAX hf hL hF
    obtain ⟨t2, a1, b1⟩ := kx E ce q u t T'.heap (locs ++ L) e1.symm (by rw [← e2]; exact X'.warmed.alike) hp hb k1 k2 k3 (by rw [e1]; exact hce) hcv hcl T' rfl X'
    exact ⟨t2, st.trans a1, b1⟩
theorem vx_callFf {S SX : Type} {post : UInt32 → S → Prop} {px : SX → Prop} {B : S → State → Prop} {BX : String → SX → State → Prop} {AX : Nat → Prop} (hr : vx_Run5 p l e R s m args below meth c H locs cells slots mc ms (F0 m pc ls st0) rest (va_Qf post B A1 a) (vx_X px BX AX) free) (hS : va_S A0 H0 H locs) (hA : ∀ q, q < H.size → A1 q → A0 q) (hf : ∀ q, free q → A0 q) (hAX : ∀ q, q < H.size → AX q → A0 q)
    (kx : ∀ (E : String) (ce : Cell) (q9 : Addr) (u : SX) (t : State) (H1 : Heap) (locs1 : List Loc), t.heap = H1 → s.vm.Alike t.vm → px u → BX E u t → H.size ≤ H1.size → (∀ q : Nat, q < H.size → ¬ AX q → H1[q]? = H[q]?) → va_S A0 H0 H1 locs1 → H1[q9]? = some ce → ce.vm = .none → s.vm.findClass E = some ce.cls → vx_W p l e R s m args below meth c H1 locs1 (cells + mc) (slots + ms) Q (F0 m pc ls rest) q9)
    (kk : ∀ (r : UInt32) (u : S) (t : State) (H1 : Heap) (locs1 : List Loc), t.heap = H1 → s.vm.Alike t.vm → post r u → B u t → H.size ≤ H1.size → (∀ q : Nat, q < H.size → ¬ A1 q → H1[q]? = H[q]?) → va_S A0 H0 H1 locs1 → W p l e R s m args below meth c H1 locs1 (cells + mc) (slots + ms) Q (F0 m (pc + 5) ls (.float r :: rest))) : W p l e R s m args below meth c H locs cells slots Q (F0 m pc ls st0) := by
  intro T hT X
  rcases hr T hT X with ⟨v, st₀, t, T', L, h0, X', hL, e1, e2, ⟨⟨r, u, hv, hp, hb⟩, hF⟩, st⟩ | ⟨q, st₀, t, T', L, E, ce, h0, X', hL, e1, e2, ⟨u, hp, hb, hF⟩, hce, hcv, hcl, st⟩
  · cases hv
    obtain ⟨k1, k2, k3⟩ := vx_keep h0 e1 hS hA hf hL hF
    obtain ⟨t2, a1, b1⟩ := kk r u t T'.heap (locs ++ L) e1.symm (by rw [← e2]; exact X'.warmed.alike) hp hb k1 k2 k3 T' rfl X'
    exact ⟨t2, st t2 a1, b1⟩
  · obtain ⟨k1, k2, k3⟩ := vx_keep h0 e1 hS hAX hf hL hF
    obtain ⟨t2, a1, b1⟩ := kx E ce q u t T'.heap (locs ++ L) e1.symm (by rw [← e2]; exact X'.warmed.alike) hp hb k1 k2 k3 (by rw [e1]; exact hce) hcv hcl T' rfl X'
    exact ⟨t2, st.trans a1, b1⟩
theorem vx_callFd {S SX : Type} {post : UInt64 → S → Prop} {px : SX → Prop} {B : S → State → Prop} {BX : String → SX → State → Prop} {AX : Nat → Prop} (hr : vx_Run5 p l e R s m args below meth c H locs cells slots mc ms (F0 m pc ls st0) rest (va_Qd post B A1 a) (vx_X px BX AX) free) (hS : va_S A0 H0 H locs) (hA : ∀ q, q < H.size → A1 q → A0 q) (hf : ∀ q, free q → A0 q) (hAX : ∀ q, q < H.size → AX q → A0 q)
    (kx : ∀ (E : String) (ce : Cell) (q9 : Addr) (u : SX) (t : State) (H1 : Heap) (locs1 : List Loc), t.heap = H1 → s.vm.Alike t.vm → px u → BX E u t → H.size ≤ H1.size → (∀ q : Nat, q < H.size → ¬ AX q → H1[q]? = H[q]?) → va_S A0 H0 H1 locs1 → H1[q9]? = some ce → ce.vm = .none → s.vm.findClass E = some ce.cls → vx_W p l e R s m args below meth c H1 locs1 (cells + mc) (slots + ms) Q (F0 m pc ls rest) q9)
    (kk : ∀ (r : UInt64) (u : S) (t : State) (H1 : Heap) (locs1 : List Loc), t.heap = H1 → s.vm.Alike t.vm → post r u → B u t → H.size ≤ H1.size → (∀ q : Nat, q < H.size → ¬ A1 q → H1[q]? = H[q]?) → va_S A0 H0 H1 locs1 → W p l e R s m args below meth c H1 locs1 (cells + mc) (slots + ms) Q (F0 m (pc + 5) ls (.double r :: rest))) : W p l e R s m args below meth c H locs cells slots Q (F0 m pc ls st0) := by
  intro T hT X
  rcases hr T hT X with ⟨v, st₀, t, T', L, h0, X', hL, e1, e2, ⟨⟨r, u, hv, hp, hb⟩, hF⟩, st⟩ | ⟨q, st₀, t, T', L, E, ce, h0, X', hL, e1, e2, ⟨u, hp, hb, hF⟩, hce, hcv, hcl, st⟩
  · cases hv
    obtain ⟨k1, k2, k3⟩ := vx_keep h0 e1 hS hA hf hL hF
    obtain ⟨t2, a1, b1⟩ := kk r u t T'.heap (locs ++ L) e1.symm (by rw [← e2]; exact X'.warmed.alike) hp hb k1 k2 k3 T' rfl X'
    exact ⟨t2, st t2 a1, b1⟩
  · obtain ⟨k1, k2, k3⟩ := vx_keep h0 e1 hS hAX hf hL hF
    obtain ⟨t2, a1, b1⟩ := kx E ce q u t T'.heap (locs ++ L) e1.symm (by rw [← e2]; exact X'.warmed.alike) hp hb k1 k2 k3 (by rw [e1]; exact hce) hcv hcl T' rfl X'
    exact ⟨t2, st.trans a1, b1⟩
end
/-! ===== END ===== -/
/-! ===== BEGIN by an interface, a method with a table of its own that may throw (follows va_callIFW, va_runFW) ===== -/
section
variable {p : Program} {l : Launch} {e : Env} {R : Room} {s : State} {m : MethodId} {args : Array Value} {below : List Frame} {meth : Method} {c : Code} {H : Heap} {locs : List Loc} {cells slots : Nat}
theorem vx_callIFW {T : State} (X : Stand p l e R s m args below meth c T locs cells slots) (hexec : p.tables.exec = Jvm.exec) {own C : String} {index count : Nat} {x y : MethodName} {bytes : ByteArray} {maxL : Nat} {ret : Option FieldType} {hh : List (Nat × Nat × Nat × Nat)}
    (hown : s.vm.findClass own = some m.cls) (hlink : (Cond.methodLink own index x).before args s = true) (hdecl : (Cond.declares x).before args s = true) (hface : (Cond.interfaceMethod x.cls x.cls x.name x.desc).before args s = true)
    (hsel : (Cond.selects C x y).before args s = true) (hinst : (Cond.instanceMethod y).before args s = true) (hpub : (Cond.publicMethod y).before args s = true) (hunh : (Cond.unhidden C x.name x.desc).before args s = true)
    (hcast : (Cond.castable C x.cls).before args s = true) (hcode : (Cond.codeWith y bytes maxL ret hh).before args s = true) (hx : x.cls ≠ "java/lang/invoke/MethodHandle" ∧ x.cls ≠ "java/lang/invoke/VarHandle")
    {W : Nat} {Pre : Pt → Array Value → Prop} {Post : Pt → Array Value → Option Value → Pt → Prop} {PostX : Pt → Array Value → Addr → Pt → Prop} (hK : vx_Back l R p e below s args y 5 W Pre Post PostX)
    {b : Addr} {cellB : Cell} {kB : Class} (hcell : T.heap[b]? = some cellB) (hobj : cellB.vm.isStatics = false) (hcls : s.vm.findClass C = some cellB.cls) (hkB : s.vm.classes[cellB.cls]? = some kB)
    {g : JFrame} (hg : g.method = m) (hsize : g.locals.size = c.maxLocals) {argsL rest : List Value} (hlen : ∀ sig, parseMethodDescriptor x.desc = some sig → argsL.length = sig.parameters.length)
    (hstack : g.stack = argsL.reverse ++ .ref b :: rest) (hW : 2 * g.monitorRoom + (rest.map fun v => v.category).sum ≤ W) (hdg : decode c.code g.pc = .ok (.invokeinterface index count, 5))
    (hpre : ∀ vm₁, s.WarmedH vm₁ → Pre ⟨T.setVm vm₁, locs, cells, slots⟩ (Value.ref b :: argsL).toArray) :
    (∃ (v : Option Value) (vm₁ : Vm) (B : Pt), s.WarmedH vm₁ ∧ Stand p l e R s m args below meth c B.U B.locs B.cells B.slots ∧ Post ⟨T.setVm vm₁, locs, cells, slots⟩ (Value.ref b :: argsL).toArray v B ∧
      ∀ target, Steps p.tables e below (B.U.setTop { g with pc := g.pc + 5, stack := v.toList ++ rest }) target → Steps p.tables e below (T.setTop g) target) ∨
    (∃ (q : Addr) (vm₁ : Vm) (B : Pt), s.WarmedH vm₁ ∧ Stand p l e R s m args below meth c B.U B.locs B.cells B.slots ∧ PostX ⟨T.setVm vm₁, locs, cells, slots⟩ (Value.ref b :: argsL).toArray q B ∧
      Steps p.tables e below (T.setTop g) ((B.U.setTop { g with stack := rest }).pushFrame (.throwing q))) := by
  obtain ⟨r0, r, hn, hrm, hstR, hsigR⟩ := Cond.declares_spec hdecl
  obtain ⟨cL, kL, r1, hcL, hkL, hiL, hfoundL, hn1⟩ := Cond.interfaceMethod_spec hface
  cases hn.symm.trans hn1
  have hr0cls : r0.cls = cL := Option.some.inj ((findClass_of_methodNamed hn).symm.trans hcL)
  obtain ⟨hnameR, hdescR⟩ := name_of_methodNamed hn hrm
  obtain ⟨mk, methM, hnamed, hmethM, -, habM⟩ := Cond.instanceMethod_spec hinst
  obtain ⟨c2, r2, m2, q1, q2, q3, q4, -⟩ := Cond.selects_spec hsel
  cases hcls.symm.trans q1
  cases hfoundL.symm.trans q2
  cases hnamed.symm.trans q3
  have hselP : selectMethod e.platform s.vm cellB.cls r0 = .method mk := by rw [Launch.admits_selectMethod X.admits]; exact q4
  have hpubM : hasFlag methM.accessFlags Acc.public_ = true := Cond.publicMethod_spec hnamed hmethM hpub
  have hway : ((cellB.cls :: s.vm.superclasses cellB.cls).any fun k => (declaredIn s.vm r.name r.desc k).any fun (_, z) => z.isPrivate || z.isStatic) = false := by
    rw [hnameR, hdescR]; exact Cond.unhidden_spec hcls hunh
  obtain ⟨c3, t3, w1, w2, w3⟩ := Cond.castable_spec hcast
  cases hcls.symm.trans w1
  cases hcL.symm.trans w2
  obtain ⟨vm₁, X₁, hstep₁⟩ := X.invokeinterface hexec hown hlink hn hrm hstR (by rw [hr0cls]; exact hkL) hiL hx (a := b) (cell := cellB) (kcell := kB) hcell
    (fun z h => by rw [h] at hobj; cases hobj) hkB (by rw [hr0cls]; exact w3) hselP hmethM hway hpubM habM (g := g) hg (argsL := argsL) (rest := rest) (hlen _ hsigR) hstack hdg
  rcases hK m meth c ⟨T.setVm vm₁, locs, cells, slots⟩ { g with stack := rest } (.invokeinterface index count) mk (Value.ref b :: argsL).toArray X₁ hg hsize hdg hW (X₁.named hnamed) (hpre vm₁ X₁.warmed) with ⟨v, B, X', hpost, hsteps⟩ | ⟨q, B, X', hpost, hsteps⟩
  · exact Or.inl ⟨v, vm₁, B, X₁.warmed, X', hpost, fun target h => hstep₁ _ fun acts => by rw [doInvoke_state]; exact hsteps.trans h⟩
  · exact Or.inr ⟨q, vm₁, B, X₁.warmed, X', hpost, hstep₁ _ fun acts => by rw [doInvoke_state]; exact hsteps⟩
theorem vx_runFW {x y : MethodName} {bytes cc : ByteArray} {maxL nL mc ms n index count : Nat} {ret : Option FieldType} {hh : List (Nat × Nat × Nat × Nat)} {ws : List Cond} {rm : Room} {Pc : Array Value → State → Prop} {Qc : Array Value → State → Outcome → State → Prop} {XC : String → State → State → Prop} {free : Addr → Prop} {Ts : List Cond} {own C : String} {cC : ClassId} {b : Addr} {As rest : List Value} {g : JFrame}
    (hat : ClassAt s C cC) (S : CallFix p m c cc nL s args Ts own) (hM : vx_Met l y ws rm Pc Qc XC mc ms free) (cw : va_CIW R s args own C index x y bytes maxL ret hh ws rm mc ms n) (hp : PreV s H C b Pc As)
    (hg : g.method = m) (hn : As.length = n) (hsize : g.locals.size = nL) (hstack : g.stack = As.reverse ++ .ref b :: rest) (hW : 2 * g.monitorRoom + (rest.map fun v => v.category).sum ≤ 8) (hdg : decode cc g.pc = .ok (.invokeinterface index count, 5)) (hf : cells + mc ≤ R.cells ∧ slots + ms ≤ R.slots) :
    vx_Run5 p l e R s m args below meth c H locs cells slots mc ms g rest (Qc (Value.ref b :: As).toArray) XC free := by
  obtain ⟨hrc, hrs, hfr, hlo, hws, hcw⟩ := cw.back
  have hini := cw.init
  have hK : vx_Back l R p e below s args y 5 8 (PreOf R mc ms Pc) (PostOf Qc mc ms free) (vx_Post XC mc ms free) := vx_backW (hh := hh) (bytes := bytes) (maxL := maxL) (ret := ret) hM hp.1 hrc hrs hfr hlo hws hcw (fun a' U hW => word_at hW (Or.inl (by first | rfl | simp [Cond.onTables, Cond.keeps, Cond.steady])) hini)
  obtain ⟨hx, hb, hml, ho, -⟩ := S
  obtain ⟨-, ⟨cellB, hcB, hoB, hclB⟩, hPc⟩ := hp
  obtain ⟨hfc, kB, hkB, -⟩ := hat
  cases hfc.symm.trans hclB
  intro T hT X
  rcases vx_callIFW X hx (C := C) (hh := hh) (bytes := bytes) (maxL := maxL) (ret := ret) ho cw.link cw.decl cw.face cw.sel cw.inst cw.pub cw.unh cw.cast cw.code cw.notMH hK (by rw [hT]; exact hcB) hoB hclB hkB hg (hsize.trans hml.symm) (argsL := As) (rest := rest) (fun sig h => hn.trans (cw.len sig h)) hstack hW (by rw [hb]; exact hdg)
    (fun vm₁ hW₁ => ⟨hf.1, hf.2, hPc (T.setVm vm₁) hT hW₁⟩) with ⟨v, vm₁, ⟨U', l2, c2, s2⟩, hW₁, X', ⟨g', mk, t, L, e1, e2, hq, h1, hL, h2, h3⟩, st⟩ | ⟨q, vm₁, ⟨U', l2, c2, s2⟩, hW₁, X', ⟨g', mk, t, L, E, ce, e1, e2, hq, hce, hcv, hcl, h1, hL, h2, h3⟩, st⟩
  · dsimp only [Pt.U, Pt.locs, Pt.cells, Pt.slots] at X' e1 e2 h1 h2 h3 st
    subst h1; subst h2; subst h3
    exact Or.inl ⟨v, (T.setVm vm₁).calling g' mk (Value.ref b :: As).toArray, t, U', L, hT, X', hL, e1, e2, hq, st⟩
  · dsimp only [Pt.U, Pt.locs, Pt.cells, Pt.slots] at X' e1 e2 h1 h2 h3 st hcl
    subst h1; subst h2; subst h3
    exact Or.inr ⟨q, (T.setVm vm₁).calling g' mk (Value.ref b :: As).toArray, t, U', L, E, ce, hT, X', hL, e1, e2, hq, hce, hcv, vx_cls hW₁ hcl, st⟩
end
/-! ===== END ===== -/
/-! ===== BEGIN .. of methods that hand back an object of the pool ===== -/
section
variable {p : Program} {l : Launch} {e : Env} {R : Room} {s : State} {m : MethodId} {args : Array Value} {below : List Frame} {meth : Method} {c : Code} {H : Heap} {locs : List Loc} {cells slots : Nat} {Q : State → Prop}
variable {mc ms : Nat} {free : Addr → Prop} {A0 A1 : Nat → Prop} {H0 : Heap} {a : Array Value} {pc : Nat} {ls : Array Slot} {st0 rest : List Value}
theorem vx_callq {S SX : Type} {post : Option Nat → S → Prop} {px : SX → Prop} {B : S → State → Prop} {BX : String → SX → State → Prop} {AX : Nat → Prop} (hr : vx_Run p l e R s m args below meth c H locs cells slots mc ms (F0 m pc ls st0) rest (va_Qq post B A1 a) (vx_X px BX AX) free) (hS : va_S A0 H0 H locs) (hA : ∀ q, q < H.size → A1 q → A0 q) (hf : ∀ q, free q → A0 q) (hAX : ∀ q, q < H.size → AX q → A0 q)
    (kx : ∀ (E : String) (ce : Cell) (q9 : Addr) (u : SX) (t : State) (H1 : Heap) (locs1 : List Loc), t.heap = H1 → s.vm.Alike t.vm → px u → BX E u t → H.size ≤ H1.size → (∀ q : Nat, q < H.size → ¬ AX q → H1[q]? = H[q]?) → va_S A0 H0 H1 locs1 → H1[q9]? = some ce → ce.vm = .none → s.vm.findClass E = some ce.cls → vx_W p l e R s m args below meth c H1 locs1 (cells + mc) (slots + ms) Q (F0 m pc ls rest) q9)
    (kk : ∀ (r : Option Nat) (u : S) (t : State) (H1 : Heap) (locs1 : List Loc), t.heap = H1 → s.vm.Alike t.vm → post r u → B u t → H.size ≤ H1.size → (∀ q : Nat, q < H.size → ¬ A1 q → H1[q]? = H[q]?) → va_S A0 H0 H1 locs1 → W p l e R s m args below meth c H1 locs1 (cells + mc) (slots + ms) Q (F0 m (pc + 3) ls (va_rf r :: rest))) : W p l e R s m args below meth c H locs cells slots Q (F0 m pc ls st0) := by
  intro T hT X
  rcases hr T hT X with ⟨v, st₀, t, T', L, h0, X', hL, e1, e2, ⟨⟨r, u, hv, hp, hb⟩, hF⟩, st⟩ | ⟨q, st₀, t, T', L, E, ce, h0, X', hL, e1, e2, ⟨u, hp, hb, hF⟩, hce, hcv, hcl, st⟩
  · cases hv
    obtain ⟨k1, k2, k3⟩ := vx_keep h0 e1 hS hA hf hL hF
    obtain ⟨t2, a1, b1⟩ := kk r u t T'.heap (locs ++ L) e1.symm (by rw [← e2]; exact X'.warmed.alike) hp hb k1 k2 k3 T' rfl X'
    exact ⟨t2, st t2 a1, b1⟩
  · obtain ⟨k1, k2, k3⟩ := vx_keep h0 e1 hS hAX hf hL hF
    obtain ⟨t2, a1, b1⟩ := kx E ce q u t T'.heap (locs ++ L) e1.symm (by rw [← e2]; exact X'.warmed.alike) hp hb k1 k2 k3 (by rw [e1]; exact hce) hcv hcl T' rfl X'
    exact ⟨t2, st.trans a1, b1⟩
end
/-! ===== END ===== -/
/-! ===== BEGIN .. a constant ===== -/
section
variable {p : Program} {l : Launch} {e : Env} {R : Room} {s : State} {m : MethodId} {args : Array Value} {below : List Frame} {meth : Method} {c : Code} {H : Heap} {locs : List Loc} {cells slots : Nat} {Q : State → Prop}
variable {mc ms : Nat} {free : Addr → Prop} {A0 A1 : Nat → Prop} {H0 : Heap} {a : Array Value} {pc : Nat} {ls : Array Slot} {st0 rest : List Value}
theorem vx_calle {ad : Nat → Nat} {S SX : Type} {post : Option Nat → S → Prop} {px : SX → Prop} {B : S → State → Prop} {BX : String → SX → State → Prop} {AX : Nat → Prop} (hr : vx_Run p l e R s m args below meth c H locs cells slots mc ms (F0 m pc ls st0) rest (va_Qe ad post B A1 a) (vx_X px BX AX) free) (hS : va_S A0 H0 H locs) (hA : ∀ q, q < H.size → A1 q → A0 q) (hf : ∀ q, free q → A0 q) (hAX : ∀ q, q < H.size → AX q → A0 q)
    (kx : ∀ (E : String) (ce : Cell) (q9 : Addr) (u : SX) (t : State) (H1 : Heap) (locs1 : List Loc), t.heap = H1 → s.vm.Alike t.vm → px u → BX E u t → H.size ≤ H1.size → (∀ q : Nat, q < H.size → ¬ AX q → H1[q]? = H[q]?) → va_S A0 H0 H1 locs1 → H1[q9]? = some ce → ce.vm = .none → s.vm.findClass E = some ce.cls → vx_W p l e R s m args below meth c H1 locs1 (cells + mc) (slots + ms) Q (F0 m pc ls rest) q9)
    (kk : ∀ (r : Option Nat) (u : S) (t : State) (H1 : Heap) (locs1 : List Loc), t.heap = H1 → s.vm.Alike t.vm → post r u → B u t → H.size ≤ H1.size → (∀ q : Nat, q < H.size → ¬ A1 q → H1[q]? = H[q]?) → va_S A0 H0 H1 locs1 → W p l e R s m args below meth c H1 locs1 (cells + mc) (slots + ms) Q (F0 m (pc + 3) ls (va_re ad r :: rest))) : W p l e R s m args below meth c H locs cells slots Q (F0 m pc ls st0) := by
  intro T hT X
  rcases hr T hT X with ⟨v, st₀, t, T', L, h0, X', hL, e1, e2, ⟨⟨r, u, hv, hp, hb⟩, hF⟩, st⟩ | ⟨q, st₀, t, T', L, E, ce, h0, X', hL, e1, e2, ⟨u, hp, hb, hF⟩, hce, hcv, hcl, st⟩
  · cases hv
    obtain ⟨k1, k2, k3⟩ := vx_keep h0 e1 hS hA hf hL hF
    obtain ⟨t2, a1, b1⟩ := kk r u t T'.heap (locs ++ L) e1.symm (by rw [← e2]; exact X'.warmed.alike) hp hb k1 k2 k3 T' rfl X'
    exact ⟨t2, st t2 a1, b1⟩
  · obtain ⟨k1, k2, k3⟩ := vx_keep h0 e1 hS hAX hf hL hF
    obtain ⟨t2, a1, b1⟩ := kx E ce q u t T'.heap (locs ++ L) e1.symm (by rw [← e2]; exact X'.warmed.alike) hp hb k1 k2 k3 (by rw [e1]; exact hce) hcv hcl T' rfl X'
    exact ⟨t2, st.trans a1, b1⟩
end
/-! ===== END ===== -/
/-! ===== BEGIN .. by an interface, an object ===== -/
section
variable {p : Program} {l : Launch} {e : Env} {R : Room} {s : State} {m : MethodId} {args : Array Value} {below : List Frame} {meth : Method} {c : Code} {H : Heap} {locs : List Loc} {cells slots : Nat} {Q : State → Prop}
variable {mc ms : Nat} {free : Addr → Prop} {A0 A1 : Nat → Prop} {H0 : Heap} {a : Array Value} {pc : Nat} {ls : Array Slot} {st0 rest : List Value}
theorem vx_callFq {S SX : Type} {post : Option Nat → S → Prop} {px : SX → Prop} {B : S → State → Prop} {BX : String → SX → State → Prop} {AX : Nat → Prop} (hr : vx_Run5 p l e R s m args below meth c H locs cells slots mc ms (F0 m pc ls st0) rest (va_Qq post B A1 a) (vx_X px BX AX) free) (hS : va_S A0 H0 H locs) (hA : ∀ q, q < H.size → A1 q → A0 q) (hf : ∀ q, free q → A0 q) (hAX : ∀ q, q < H.size → AX q → A0 q)
    (kx : ∀ (E : String) (ce : Cell) (q9 : Addr) (u : SX) (t : State) (H1 : Heap) (locs1 : List Loc), t.heap = H1 → s.vm.Alike t.vm → px u → BX E u t → H.size ≤ H1.size → (∀ q : Nat, q < H.size → ¬ AX q → H1[q]? = H[q]?) → va_S A0 H0 H1 locs1 → H1[q9]? = some ce → ce.vm = .none → s.vm.findClass E = some ce.cls → vx_W p l e R s m args below meth c H1 locs1 (cells + mc) (slots + ms) Q (F0 m pc ls rest) q9)
    (kk : ∀ (r : Option Nat) (u : S) (t : State) (H1 : Heap) (locs1 : List Loc), t.heap = H1 → s.vm.Alike t.vm → post r u → B u t → H.size ≤ H1.size → (∀ q : Nat, q < H.size → ¬ A1 q → H1[q]? = H[q]?) → va_S A0 H0 H1 locs1 → W p l e R s m args below meth c H1 locs1 (cells + mc) (slots + ms) Q (F0 m (pc + 5) ls (va_rf r :: rest))) : W p l e R s m args below meth c H locs cells slots Q (F0 m pc ls st0) := by
  intro T hT X
  rcases hr T hT X with ⟨v, st₀, t, T', L, h0, X', hL, e1, e2, ⟨⟨r, u, hv, hp, hb⟩, hF⟩, st⟩ | ⟨q, st₀, t, T', L, E, ce, h0, X', hL, e1, e2, ⟨u, hp, hb, hF⟩, hce, hcv, hcl, st⟩
  · cases hv
    obtain ⟨k1, k2, k3⟩ := vx_keep h0 e1 hS hA hf hL hF
    obtain ⟨t2, a1, b1⟩ := kk r u t T'.heap (locs ++ L) e1.symm (by rw [← e2]; exact X'.warmed.alike) hp hb k1 k2 k3 T' rfl X'
    exact ⟨t2, st t2 a1, b1⟩
  · obtain ⟨k1, k2, k3⟩ := vx_keep h0 e1 hS hAX hf hL hF
    obtain ⟨t2, a1, b1⟩ := kx E ce q u t T'.heap (locs ++ L) e1.symm (by rw [← e2]; exact X'.warmed.alike) hp hb k1 k2 k3 (by rw [e1]; exact hce) hcv hcl T' rfl X'
    exact ⟨t2, st.trans a1, b1⟩
end
/-! ===== END ===== -/
/-! ===== BEGIN .. by an interface, a constant ===== -/
section
variable {p : Program} {l : Launch} {e : Env} {R : Room} {s : State} {m : MethodId} {args : Array Value} {below : List Frame} {meth : Method} {c : Code} {H : Heap} {locs : List Loc} {cells slots : Nat} {Q : State → Prop}
variable {mc ms : Nat} {free : Addr → Prop} {A0 A1 : Nat → Prop} {H0 : Heap} {a : Array Value} {pc : Nat} {ls : Array Slot} {st0 rest : List Value}
theorem vx_callFe {ad : Nat → Nat} {S SX : Type} {post : Option Nat → S → Prop} {px : SX → Prop} {B : S → State → Prop} {BX : String → SX → State → Prop} {AX : Nat → Prop} (hr : vx_Run5 p l e R s m args below meth c H locs cells slots mc ms (F0 m pc ls st0) rest (va_Qe ad post B A1 a) (vx_X px BX AX) free) (hS : va_S A0 H0 H locs) (hA : ∀ q, q < H.size → A1 q → A0 q) (hf : ∀ q, free q → A0 q) (hAX : ∀ q, q < H.size → AX q → A0 q)
    (kx : ∀ (E : String) (ce : Cell) (q9 : Addr) (u : SX) (t : State) (H1 : Heap) (locs1 : List Loc), t.heap = H1 → s.vm.Alike t.vm → px u → BX E u t → H.size ≤ H1.size → (∀ q : Nat, q < H.size → ¬ AX q → H1[q]? = H[q]?) → va_S A0 H0 H1 locs1 → H1[q9]? = some ce → ce.vm = .none → s.vm.findClass E = some ce.cls → vx_W p l e R s m args below meth c H1 locs1 (cells + mc) (slots + ms) Q (F0 m pc ls rest) q9)
    (kk : ∀ (r : Option Nat) (u : S) (t : State) (H1 : Heap) (locs1 : List Loc), t.heap = H1 → s.vm.Alike t.vm → post r u → B u t → H.size ≤ H1.size → (∀ q : Nat, q < H.size → ¬ A1 q → H1[q]? = H[q]?) → va_S A0 H0 H1 locs1 → W p l e R s m args below meth c H1 locs1 (cells + mc) (slots + ms) Q (F0 m (pc + 5) ls (va_re ad r :: rest))) : W p l e R s m args below meth c H locs cells slots Q (F0 m pc ls st0) := by
  intro T hT X
  rcases hr T hT X with ⟨v, st₀, t, T', L, h0, X', hL, e1, e2, ⟨⟨r, u, hv, hp, hb⟩, hF⟩, st⟩ | ⟨q, st₀, t, T', L, E, ce, h0, X', hL, e1, e2, ⟨u, hp, hb, hF⟩, hce, hcv, hcl, st⟩
  · cases hv
    obtain ⟨k1, k2, k3⟩ := vx_keep h0 e1 hS hA hf hL hF
    obtain ⟨t2, a1, b1⟩ := kk r u t T'.heap (locs ++ L) e1.symm (by rw [← e2]; exact X'.warmed.alike) hp hb k1 k2 k3 T' rfl X'
    exact ⟨t2, st t2 a1, b1⟩
  · obtain ⟨k1, k2, k3⟩ := vx_keep h0 e1 hS hAX hf hL hF
    obtain ⟨t2, a1, b1⟩ := kx E ce q u t T'.heap (locs ++ L) e1.symm (by rw [← e2]; exact X'.warmed.alike) hp hb k1 k2 k3 (by rw [e1]; exact hce) hcv hcl T' rfl X'
    exact ⟨t2, st.trans a1, b1⟩
end
/-! ===== END ===== -/
/-! ===== BEGIN what the machine throws by itself: null at a field, at athrow ===== -/
section VXM2
variable {p : Program} {l : Launch} {e : Env} {R : Room} {s : State} {m : MethodId} {args : Array Value} {below : List Frame} {meth : Method} {c : Code} {H : Heap} {locs : List Loc} {cells slots : Nat}
variable {Q : State → Prop} {cc : ByteArray} {pc : Nat} {ls : Array Slot} {rest : List Value}
theorem vx_getfN {D cl tys} {own ref C : String} {T : u_T} {N ci index : Nat} {Ts : List Cond} (hexec : p.tables.exec = Jvm.exec) (hb : c.code = cc) (hts : ∀ w ∈ Ts, w.before args s = true) (hin : ∀ w ∈ u_ws C T N, w ∈ Ts) (hown : s.vm.findClass own = some m.cls) (hK : va_K D cl tys s) (hc : cl[ci]? = some (C, T, N)) (k : Nat) (hk : k < N) (hlink : (Cond.fieldLink own index ref (T k).2.1 (T k).2.2.1).before args s = true) (hsame : ∀ x, s.fieldFound? (T k).1 (T k).2.1 (T k).2.2.1 = some x → s.fieldFound? ref (T k).2.1 (T k).2.2.1 = some x) (hdg : decode cc pc = .ok (.getfield index, 3)) (kk : vx_NoteN p l e R s m args below meth c H locs cells slots Q (F0 m pc ls rest)) : W p l e R s m args below meth c H locs cells slots Q (F0 m pc ls (.null :: rest)) := by
  obtain ⟨hS, hfc, kC, hkC, -⟩ := hK.1 ci _ hc
  obtain ⟨cf, kf, fi, f, hi, -⟩ := hS k hk
  intro U hU X
  obtain ⟨vm', X1, st1⟩ := X.getfieldNull hexec hown hlink (hsame _ hi) (u_facts hfc hkC (u_lays hts hin hk) hi).1 (g := F0 m pc ls (.null :: rest)) rfl (rest := rest) rfl (by rw [hb]; exact hdg)
  obtain ⟨t, st, q⟩ := kk (U.setVm vm') hU X1
  exact ⟨t, st1 t st, q⟩
theorem vx_getfNN {D cl tys} {own ref C host : String} {T : u_T} {N ci index : Nat} {Ts : List Cond} (hexec : p.tables.exec = Jvm.exec) (hb : c.code = cc) (hts : ∀ w ∈ Ts, w.before args s = true) (hin : ∀ w ∈ u_ws C T N, w ∈ Ts) (hown : s.vm.findClass own = some m.cls) (hK : va_K D cl tys s) (hc : cl[ci]? = some (C, T, N)) (k : Nat) (hk : k < N) (hlink : (Cond.fieldLinkNest own index ref (T k).2.1 (T k).2.2.1 host).before args s = true) (hsame : ∀ x, s.fieldFound? (T k).1 (T k).2.1 (T k).2.2.1 = some x → s.fieldFound? ref (T k).2.1 (T k).2.2.1 = some x) (hdg : decode cc pc = .ok (.getfield index, 3)) (kk : vx_NoteN p l e R s m args below meth c H locs cells slots Q (F0 m pc ls rest)) : W p l e R s m args below meth c H locs cells slots Q (F0 m pc ls (.null :: rest)) := by
  obtain ⟨hS, hfc, kC, hkC, -⟩ := hK.1 ci _ hc
  obtain ⟨cf, kf, fi, f, hi, -⟩ := hS k hk
  intro U hU X
  obtain ⟨vm', X1, st1⟩ := X.getfieldNullNest hexec hown hlink (hsame _ hi) (u_facts hfc hkC (u_lays hts hin hk) hi).1 (g := F0 m pc ls (.null :: rest)) rfl (rest := rest) rfl (by rw [hb]; exact hdg)
  obtain ⟨t, st, q⟩ := kk (U.setVm vm') hU X1
  exact ⟨t, st1 t st, q⟩
theorem vx_putfN {D cl tys} {own ref C : String} {T : u_T} {N ci index : Nat} {Ts : List Cond} (hexec : p.tables.exec = Jvm.exec) (hb : c.code = cc) (hts : ∀ w ∈ Ts, w.before args s = true) (hin : ∀ w ∈ u_ws C T N, w ∈ Ts) (hown : s.vm.findClass own = some m.cls) (hK : va_K D cl tys s) (hc : cl[ci]? = some (C, T, N)) (k : Nat) (hk : k < N) (hlink : (Cond.fieldLink own index ref (T k).2.1 (T k).2.2.1).before args s = true) (hsame : ∀ x, s.fieldFound? (T k).1 (T k).2.1 (T k).2.2.1 = some x → s.fieldFound? ref (T k).2.1 (T k).2.2.1 = some x) (hfin : (T k).2.2.2 = false) {v : Value} (hdg : decode cc pc = .ok (.putfield index, 3)) (kk : vx_NoteN p l e R s m args below meth c H locs cells slots Q (F0 m pc ls rest)) : W p l e R s m args below meth c H locs cells slots Q (F0 m pc ls (v :: .null :: rest)) := by
  obtain ⟨hS, hfc, kC, hkC, -⟩ := hK.1 ci _ hc
  obtain ⟨cf, kf, fi, f, hi, -⟩ := hS k hk
  have hlay := hts _ (hin _ (u_in_lay hk))
  unfold u_lay at hlay
  rw [if_neg (by rw [hfin]; decide)] at hlay
  obtain ⟨c9, k9, cf9, kf9, fi9, f9, -, -, hi9, hst9, hnf9, -⟩ := Cond.lays_spec hlay
  cases hi.symm.trans hi9
  intro U hU X
  obtain ⟨vm', X1, st1⟩ := X.putfieldNull hexec hown hlink (hsame _ hi) hst9 hnf9 (g := F0 m pc ls (v :: .null :: rest)) rfl (v := v) (rest := rest) rfl (by rw [hb]; exact hdg)
  obtain ⟨t, st, q⟩ := kk (U.setVm vm') hU X1
  exact ⟨t, st1 t st, q⟩
theorem vx_putfNN {D cl tys} {own ref C host : String} {T : u_T} {N ci index : Nat} {Ts : List Cond} (hexec : p.tables.exec = Jvm.exec) (hb : c.code = cc) (hts : ∀ w ∈ Ts, w.before args s = true) (hin : ∀ w ∈ u_ws C T N, w ∈ Ts) (hown : s.vm.findClass own = some m.cls) (hK : va_K D cl tys s) (hc : cl[ci]? = some (C, T, N)) (k : Nat) (hk : k < N) (hlink : (Cond.fieldLinkNest own index ref (T k).2.1 (T k).2.2.1 host).before args s = true) (hsame : ∀ x, s.fieldFound? (T k).1 (T k).2.1 (T k).2.2.1 = some x → s.fieldFound? ref (T k).2.1 (T k).2.2.1 = some x) (hfin : (T k).2.2.2 = false) {v : Value} (hdg : decode cc pc = .ok (.putfield index, 3)) (kk : vx_NoteN p l e R s m args below meth c H locs cells slots Q (F0 m pc ls rest)) : W p l e R s m args below meth c H locs cells slots Q (F0 m pc ls (v :: .null :: rest)) := by
  obtain ⟨hS, hfc, kC, hkC, -⟩ := hK.1 ci _ hc
  obtain ⟨cf, kf, fi, f, hi, -⟩ := hS k hk
  have hlay := hts _ (hin _ (u_in_lay hk))
  unfold u_lay at hlay
  rw [if_neg (by rw [hfin]; decide)] at hlay
  obtain ⟨c9, k9, cf9, kf9, fi9, f9, -, -, hi9, hst9, hnf9, -⟩ := Cond.lays_spec hlay
  cases hi.symm.trans hi9
  intro U hU X
  obtain ⟨vm', X1, st1⟩ := X.putfieldNullNest hexec hown hlink (hsame _ hi) hst9 hnf9 (g := F0 m pc ls (v :: .null :: rest)) rfl (v := v) (rest := rest) rfl (by rw [hb]; exact hdg)
  obtain ⟨t, st, q⟩ := kk (U.setVm vm') hU X1
  exact ⟨t, st1 t st, q⟩
theorem vx_athrowN (hexec : p.tables.exec = Jvm.exec) (hb : c.code = cc) (hdg : decode cc pc = .ok (.athrow, 1)) (k : vx_NoteN p l e R s m args below meth c H locs cells slots Q (F0 m pc ls rest)) : W p l e R s m args below meth c H locs cells slots Q (F0 m pc ls (.null :: rest)) := by
  intro T hT X
  obtain ⟨t, st, q⟩ := k T hT X
  exact ⟨t, X.athrowNull hexec (g := F0 m pc ls (.null :: rest)) rfl (rest := rest) rfl (by rw [hb]; exact hdg) t st, q⟩
end VXM2
/-! ===== END ===== -/
end
section
def RX0 : String := "WindFarmDispatcher$CommandReader"
def TX0 : u_T := fun k => match k with
  | 0 => ("WindFarmDispatcher$CommandReader", "input", "LWindFarmDispatcher$Text;", true)
  | 1 => ("WindFarmDispatcher$CommandReader", "arguments", "[I", true)
  | 2 => ("WindFarmDispatcher$CommandReader", "argumentCount", "I", false)
  | 3 => ("WindFarmDispatcher$CommandReader", "position", "I", false)
  | _ => ("WindFarmDispatcher$CommandReader", "order", "C", false)
def tyX0 : Nat → FieldType := fun k => match k with
  | 0 => .object "WindFarmDispatcher$Text"
  | 1 => .array .int
  | 2 => .int
  | 3 => .int
  | _ => .char
abbrev wsX00 : List Cond := u_ws RX0 TX0 5
theorem nmX0 : ∀ a, a < 5 → ∀ b, b < 5 → a ≠ b → (TX0 a).2.1 ≠ (TX0 b).2.1 := by decide +kernel
theorem tyX0_ok : ∀ k, k < 5 → parseFieldDescriptor (TX0 k).2.2.1 = some (tyX0 k) := by decide +kernel
abbrev cX0_init : ByteArray := prog_2_method_1_code
def yX0_init : MethodName := ⟨RX0, "<init>", "()V"⟩
abbrev cX0_restart : ByteArray := prog_2_method_2_code
def yX0_restart : MethodName := ⟨RX0, "restart", "()V"⟩
abbrev cX0_argument : ByteArray := prog_2_method_3_code
def yX0_argument : MethodName := ⟨RX0, "argument", "(I)I"⟩
abbrev cX0_countCommands : ByteArray := prog_2_method_4_code
def yX0_countCommands : MethodName := ⟨RX0, "countCommands", "()I"⟩
abbrev cX0_readNext : ByteArray := prog_2_method_5_code
def yX0_readNext : MethodName := ⟨RX0, "readNext", "()Z"⟩
abbrev cX0_partsOf : ByteArray := prog_2_method_6_code
def yX0_partsOf : MethodName := ⟨RX0, "partsOf", "(C)Ljava/lang/String;"⟩
abbrev cX0_readPart : ByteArray := prog_2_method_7_code
def yX0_readPart : MethodName := ⟨RX0, "readPart", "(C)Z"⟩
abbrev cX0_readDigits : ByteArray := prog_2_method_8_code
def yX0_readDigits : MethodName := ⟨RX0, "readDigits", "(I)Z"⟩
abbrev cX0_readDirection : ByteArray := prog_2_method_9_code
def yX0_readDirection : MethodName := ⟨RX0, "readDirection", "()Z"⟩
abbrev cX0_readSign : ByteArray := prog_2_method_10_code
def yX0_readSign : MethodName := ⟨RX0, "readSign", "(C)Z"⟩
abbrev cX0_keepArgument : ByteArray := prog_2_method_11_code
def yX0_keepArgument : MethodName := ⟨RX0, "keepArgument", "(I)V"⟩
def RX1 : String := "WindFarmDispatcher$Farm"
def TX1 : u_T := fun k => match k with
  | 0 => ("WindFarmDispatcher$Farm", "rows", "[I", true)
  | 1 => ("WindFarmDispatcher$Farm", "columns", "[I", true)
  | 2 => ("WindFarmDispatcher$Farm", "rated", "[I", true)
  | 3 => ("WindFarmDispatcher$Farm", "states", "[I", true)
  | 4 => ("WindFarmDispatcher$Farm", "limits", "[I", true)
  | 5 => ("WindFarmDispatcher$Farm", "serviceHours", "[I", true)
  | 6 => ("WindFarmDispatcher$Farm", "cells", "[I", true)
  | 7 => ("WindFarmDispatcher$Farm", "prices", "[I", true)
  | 8 => ("WindFarmDispatcher$Farm", "quantities", "[I", true)
  | 9 => ("WindFarmDispatcher$Farm", "count", "I", false)
  | 10 => ("WindFarmDispatcher$Farm", "direction", "C", false)
  | 11 => ("WindFarmDispatcher$Farm", "speed", "I", false)
  | 12 => ("WindFarmDispatcher$Farm", "gridLimit", "I", false)
  | 13 => ("WindFarmDispatcher$Farm", "hoursPassed", "I", false)
  | 14 => ("WindFarmDispatcher$Farm", "made", "J", false)
  | 15 => ("WindFarmDispatcher$Farm", "lost", "J", false)
  | 16 => ("WindFarmDispatcher$Farm", "sold", "J", false)
  | 17 => ("WindFarmDispatcher$Farm", "spilled", "J", false)
  | _ => ("WindFarmDispatcher$Farm", "coins", "J", false)
def tyX1 : Nat → FieldType := fun k => match k with
  | 0 => .array .int
  | 1 => .array .int
  | 2 => .array .int
  | 3 => .array .int
  | 4 => .array .int
  | 5 => .array .int
  | 6 => .array .int
  | 7 => .array .int
  | 8 => .array .int
  | 9 => .int
  | 10 => .char
  | 11 => .int
  | 12 => .int
  | 13 => .int
  | 14 => .long
  | 15 => .long
  | 16 => .long
  | 17 => .long
  | _ => .long
abbrev wsX10 : List Cond := u_ws RX1 TX1 19
theorem nmX1 : ∀ a, a < 19 → ∀ b, b < 19 → a ≠ b → (TX1 a).2.1 ≠ (TX1 b).2.1 := by decide +kernel
theorem tyX1_ok : ∀ k, k < 19 → parseFieldDescriptor (TX1 k).2.2.1 = some (tyX1 k) := by decide +kernel
abbrev cX1_init : ByteArray := prog_3_method_1_code
def yX1_init : MethodName := ⟨RX1, "<init>", "()V"⟩
abbrev cX1_copyFrom : ByteArray := prog_3_method_2_code
def yX1_copyFrom : MethodName := ⟨RX1, "copyFrom", "(LWindFarmDispatcher$Farm;)V"⟩
abbrev cX1_copyRow : ByteArray := prog_3_method_3_code
def yX1_copyRow : MethodName := ⟨RX1, "copyRow", "([I[I)V"⟩
abbrev cX1_hasTurbine : ByteArray := prog_3_method_4_code
def yX1_hasTurbine : MethodName := ⟨RX1, "hasTurbine", "(I)Z"⟩
abbrev cX1_turbineIn : ByteArray := prog_3_method_5_code
def yX1_turbineIn : MethodName := ⟨RX1, "turbineIn", "(II)I"⟩
abbrev cX1_isInState : ByteArray := prog_3_method_6_code
def yX1_isInState : MethodName := ⟨RX1, "isInState", "(II)Z"⟩
abbrev cX1_isCurtailed : ByteArray := prog_3_method_7_code
def yX1_isCurtailed : MethodName := ⟨RX1, "isCurtailed", "(I)Z"⟩
abbrev cX1_countInState : ByteArray := prog_3_method_8_code
def yX1_countInState : MethodName := ⟨RX1, "countInState", "(I)I"⟩
abbrev cX1_crewsLeft : ByteArray := prog_3_method_9_code
def yX1_crewsLeft : MethodName := ⟨RX1, "crewsLeft", "()I"⟩
abbrev cX1_firstInService : ByteArray := prog_3_method_10_code
def yX1_firstInService : MethodName := ⟨RX1, "firstInService", "()I"⟩
abbrev cX1_isBidFor : ByteArray := prog_3_method_11_code
def yX1_isBidFor : MethodName := ⟨RX1, "isBidFor", "(I)Z"⟩
abbrev cX1_countBids : ByteArray := prog_3_method_12_code
def yX1_countBids : MethodName := ⟨RX1, "countBids", "()I"⟩
abbrev cX1_placeOf : ByteArray := prog_3_method_13_code
def yX1_placeOf : MethodName := ⟨RX1, "placeOf", "(II)I"⟩
abbrev cX1_stepTowards : ByteArray := prog_3_method_14_code
def yX1_stepTowards : MethodName := ⟨RX1, "stepTowards", "(C)I"⟩
abbrev cX1_lossIn : ByteArray := prog_3_method_15_code
def yX1_lossIn : MethodName := ⟨RX1, "lossIn", "(IC)I"⟩
abbrev cX1_wakeOf : ByteArray := prog_3_method_16_code
def yX1_wakeOf : MethodName := ⟨RX1, "wakeOf", "(ZZ)I"⟩
abbrev cX1_powerAfter : ByteArray := prog_3_method_17_code
def yX1_powerAfter : MethodName := ⟨RX1, "powerAfter", "(III)I"⟩
abbrev cX1_limited : ByteArray := prog_3_method_18_code
def yX1_limited : MethodName := ⟨RX1, "limited", "(II)I"⟩
abbrev cX1_outputIn : ByteArray := prog_3_method_19_code
def yX1_outputIn : MethodName := ⟨RX1, "outputIn", "(ICI)I"⟩
abbrev cX1_sumIn : ByteArray := prog_3_method_20_code
def yX1_sumIn : MethodName := ⟨RX1, "sumIn", "(CI)I"⟩
abbrev cX1_sumByLines : ByteArray := prog_3_method_21_code
def yX1_sumByLines : MethodName := ⟨RX1, "sumByLines", "()I"⟩
abbrev cX1_sumOfLine : ByteArray := prog_3_method_22_code
def yX1_sumOfLine : MethodName := ⟨RX1, "sumOfLine", "(I)I"⟩
abbrev cX1_blowsAlongColumns : ByteArray := prog_3_method_23_code
def yX1_blowsAlongColumns : MethodName := ⟨RX1, "blowsAlongColumns", "()Z"⟩
abbrev cX1_turbineInLine : ByteArray := prog_3_method_24_code
def yX1_turbineInLine : MethodName := ⟨RX1, "turbineInLine", "(II)I"⟩
abbrev cX1_turbinesAheadOf : ByteArray := prog_3_method_25_code
def yX1_turbinesAheadOf : MethodName := ⟨RX1, "turbinesAheadOf", "(I)I"⟩
abbrev cX1_isTurbineAhead : ByteArray := prog_3_method_26_code
def yX1_isTurbineAhead : MethodName := ⟨RX1, "isTurbineAhead", "(II)Z"⟩
abbrev cX1_bidsAheadOf : ByteArray := prog_3_method_27_code
def yX1_bidsAheadOf : MethodName := ⟨RX1, "bidsAheadOf", "(I)I"⟩
abbrev cX1_isBidAhead : ByteArray := prog_3_method_28_code
def yX1_isBidAhead : MethodName := ⟨RX1, "isBidAhead", "(II)Z"⟩
abbrev cX1_judge : ByteArray := prog_3_method_29_code
def yX1_judge : MethodName := ⟨RX1, "judge", "(CIII)I"⟩
abbrev cX1_judgeAdding : ByteArray := prog_3_method_30_code
def yX1_judgeAdding : MethodName := ⟨RX1, "judgeAdding", "(III)I"⟩
abbrev cX1_judgeTurbine : ByteArray := prog_3_method_31_code
def yX1_judgeTurbine : MethodName := ⟨RX1, "judgeTurbine", "(CII)I"⟩
abbrev cX1_judgeSending : ByteArray := prog_3_method_32_code
def yX1_judgeSending : MethodName := ⟨RX1, "judgeSending", "(II)I"⟩
abbrev cX1_judgeBid : ByteArray := prog_3_method_33_code
def yX1_judgeBid : MethodName := ⟨RX1, "judgeBid", "(CIII)I"⟩
abbrev cX1_detailOf : ByteArray := prog_3_method_34_code
def yX1_detailOf : MethodName := ⟨RX1, "detailOf", "(III)I"⟩
abbrev cX1_carryOut : ByteArray := prog_3_method_35_code
def yX1_carryOut : MethodName := ⟨RX1, "carryOut", "(CIII)I"⟩
abbrev cX1_add : ByteArray := prog_3_method_36_code
def yX1_add : MethodName := ⟨RX1, "add", "(III)I"⟩
abbrev cX1_breakDown : ByteArray := prog_3_method_37_code
def yX1_breakDown : MethodName := ⟨RX1, "breakDown", "(I)I"⟩
abbrev cX1_startService : ByteArray := prog_3_method_38_code
def yX1_startService : MethodName := ⟨RX1, "startService", "(II)I"⟩
abbrev cX1_stopService : ByteArray := prog_3_method_39_code
def yX1_stopService : MethodName := ⟨RX1, "stopService", "(I)I"⟩
abbrev cX1_changeLimit : ByteArray := prog_3_method_40_code
def yX1_changeLimit : MethodName := ⟨RX1, "changeLimit", "(II)I"⟩
abbrev cX1_endLimit : ByteArray := prog_3_method_41_code
def yX1_endLimit : MethodName := ⟨RX1, "endLimit", "(I)I"⟩
abbrev cX1_turnWind : ByteArray := prog_3_method_42_code
def yX1_turnWind : MethodName := ⟨RX1, "turnWind", "(CI)I"⟩
abbrev cX1_changeGridLimit : ByteArray := prog_3_method_43_code
def yX1_changeGridLimit : MethodName := ⟨RX1, "changeGridLimit", "(I)I"⟩
abbrev cX1_limitToGrid : ByteArray := prog_3_method_44_code
def yX1_limitToGrid : MethodName := ⟨RX1, "limitToGrid", "()I"⟩
abbrev cX1_turbineWithMostOutput : ByteArray := prog_3_method_45_code
def yX1_turbineWithMostOutput : MethodName := ⟨RX1, "turbineWithMostOutput", "()I"⟩
abbrev cX1_endAllLimits : ByteArray := prog_3_method_46_code
def yX1_endAllLimits : MethodName := ⟨RX1, "endAllLimits", "()I"⟩
abbrev cX1_addBid : ByteArray := prog_3_method_47_code
def yX1_addBid : MethodName := ⟨RX1, "addBid", "(III)I"⟩
abbrev cX1_removeBid : ByteArray := prog_3_method_48_code
def yX1_removeBid : MethodName := ⟨RX1, "removeBid", "(I)I"⟩
abbrev cX1_pass : ByteArray := prog_3_method_49_code
def yX1_pass : MethodName := ⟨RX1, "pass", "(I)I"⟩
abbrev cX1_account : ByteArray := prog_3_method_50_code
def yX1_account : MethodName := ⟨RX1, "account", "(I)V"⟩
abbrev cX1_workOnServices : ByteArray := prog_3_method_51_code
def yX1_workOnServices : MethodName := ⟨RX1, "workOnServices", "()V"⟩
def RX2 : String := "WindFarmDispatcher$History"
def TX2 : u_T := fun k => match k with
  | 0 => ("WindFarmDispatcher$History", "farms", "[LWindFarmDispatcher$Farm;", true)
  | 1 => ("WindFarmDispatcher$History", "next", "I", false)
  | _ => ("WindFarmDispatcher$History", "size", "I", false)
def tyX2 : Nat → FieldType := fun k => match k with
  | 0 => .array (.object "WindFarmDispatcher$Farm")
  | 1 => .int
  | _ => .int
abbrev wsX20 : List Cond := u_ws RX2 TX2 3
theorem nmX2 : ∀ a, a < 3 → ∀ b, b < 3 → a ≠ b → (TX2 a).2.1 ≠ (TX2 b).2.1 := by decide +kernel
theorem tyX2_ok : ∀ k, k < 3 → parseFieldDescriptor (TX2 k).2.2.1 = some (tyX2 k) := by decide +kernel
abbrev cX2_init : ByteArray := prog_4_method_1_code
def yX2_init : MethodName := ⟨RX2, "<init>", "()V"⟩
abbrev cX2_keep : ByteArray := prog_4_method_2_code
def yX2_keep : MethodName := ⟨RX2, "keep", "(LWindFarmDispatcher$Farm;)V"⟩
abbrev cX2_takeBack : ByteArray := prog_4_method_3_code
def yX2_takeBack : MethodName := ⟨RX2, "takeBack", "(LWindFarmDispatcher$Farm;)V"⟩
abbrev cX2_forget : ByteArray := prog_4_method_4_code
def yX2_forget : MethodName := ⟨RX2, "forget", "()V"⟩
abbrev cX2_farmAt : ByteArray := prog_4_method_5_code
def yX2_farmAt : MethodName := ⟨RX2, "farmAt", "(I)LWindFarmDispatcher$Farm;"⟩
def RX3 : String := "WindFarmDispatcher$Text"
def TX3 : u_T := fun k => match k with
  | 0 => ("WindFarmDispatcher$Text", "signs", "[C", true)
  | _ => ("WindFarmDispatcher$Text", "length", "I", false)
def tyX3 : Nat → FieldType := fun k => match k with
  | 0 => .array .char
  | _ => .int
abbrev wsX30 : List Cond := u_ws RX3 TX3 2
theorem nmX3 : ∀ a, a < 2 → ∀ b, b < 2 → a ≠ b → (TX3 a).2.1 ≠ (TX3 b).2.1 := by decide +kernel
theorem tyX3_ok : ∀ k, k < 2 → parseFieldDescriptor (TX3 k).2.2.1 = some (tyX3 k) := by decide +kernel
abbrev cX3_init : ByteArray := prog_5_method_1_code
def yX3_init : MethodName := ⟨RX3, "<init>", "()V"⟩
abbrev cX3_clear : ByteArray := prog_5_method_2_code
def yX3_clear : MethodName := ⟨RX3, "clear", "()V"⟩
abbrev cX3_add : ByteArray := prog_5_method_3_code
def yX3_add : MethodName := ⟨RX3, "add", "(C)V"⟩
abbrev cX3_addNumber : ByteArray := prog_5_method_4_code
def yX3_addNumber : MethodName := ⟨RX3, "addNumber", "(I)V"⟩
abbrev cX3_signAt : ByteArray := prog_5_method_5_code
def yX3_signAt : MethodName := ⟨RX3, "signAt", "(I)C"⟩
def RX4 : String := "WindFarmDispatcher"
def TX4 : u_T := fun k => match k with
  | 0 => ("WindFarmDispatcher", "farm", "LWindFarmDispatcher$Farm;", true)
  | 1 => ("WindFarmDispatcher", "trial", "LWindFarmDispatcher$Farm;", true)
  | 2 => ("WindFarmDispatcher", "snapshot", "LWindFarmDispatcher$Farm;", true)
  | 3 => ("WindFarmDispatcher", "history", "LWindFarmDispatcher$History;", true)
  | 4 => ("WindFarmDispatcher", "reader", "LWindFarmDispatcher$CommandReader;", true)
  | 5 => ("WindFarmDispatcher", "output", "LWindFarmDispatcher$Text;", true)
  | 6 => ("WindFarmDispatcher", "hasSnapshot", "Z", false)
  | 7 => ("WindFarmDispatcher", "syntaxOffset", "I", false)
  | 8 => ("WindFarmDispatcher", "reason", "I", false)
  | 9 => ("WindFarmDispatcher", "detail", "I", false)
  | _ => ("WindFarmDispatcher", "cause", "I", false)
def tyX4 : Nat → FieldType := fun k => match k with
  | 0 => .object "WindFarmDispatcher$Farm"
  | 1 => .object "WindFarmDispatcher$Farm"
  | 2 => .object "WindFarmDispatcher$Farm"
  | 3 => .object "WindFarmDispatcher$History"
  | 4 => .object "WindFarmDispatcher$CommandReader"
  | 5 => .object "WindFarmDispatcher$Text"
  | 6 => .boolean
  | 7 => .int
  | 8 => .int
  | 9 => .int
  | _ => .int
abbrev wsX40 : List Cond := u_ws RX4 TX4 11
theorem nmX4 : ∀ a, a < 11 → ∀ b, b < 11 → a ≠ b → (TX4 a).2.1 ≠ (TX4 b).2.1 := by decide +kernel
theorem tyX4_ok : ∀ k, k < 11 → parseFieldDescriptor (TX4 k).2.2.1 = some (tyX4 k) := by decide +kernel
abbrev cX4_init : ByteArray := prog_1_method_1_code
def yX4_init : MethodName := ⟨RX4, "<init>", "()V"⟩
abbrev cX4_addTurbine : ByteArray := prog_1_method_2_code
def yX4_addTurbine : MethodName := ⟨RX4, "addTurbine", "(III)I"⟩
abbrev cX4_fail : ByteArray := prog_1_method_3_code
def yX4_fail : MethodName := ⟨RX4, "fail", "(I)I"⟩
abbrev cX4_sendCrew : ByteArray := prog_1_method_4_code
def yX4_sendCrew : MethodName := ⟨RX4, "sendCrew", "(II)I"⟩
abbrev cX4_recallCrew : ByteArray := prog_1_method_5_code
def yX4_recallCrew : MethodName := ⟨RX4, "recallCrew", "(I)I"⟩
abbrev cX4_curtail : ByteArray := prog_1_method_6_code
def yX4_curtail : MethodName := ⟨RX4, "curtail", "(II)I"⟩
abbrev cX4_release : ByteArray := prog_1_method_7_code
def yX4_release : MethodName := ⟨RX4, "release", "(I)I"⟩
abbrev cX4_turbineCount : ByteArray := prog_1_method_8_code
def yX4_turbineCount : MethodName := ⟨RX4, "turbineCount", "()I"⟩
abbrev cX4_turbineAt : ByteArray := prog_1_method_9_code
def yX4_turbineAt : MethodName := ⟨RX4, "turbineAt", "(II)I"⟩
abbrev cX4_rowOf : ByteArray := prog_1_method_10_code
def yX4_rowOf : MethodName := ⟨RX4, "rowOf", "(I)I"⟩
abbrev cX4_columnOf : ByteArray := prog_1_method_11_code
def yX4_columnOf : MethodName := ⟨RX4, "columnOf", "(I)I"⟩
abbrev cX4_ratedPower : ByteArray := prog_1_method_12_code
def yX4_ratedPower : MethodName := ⟨RX4, "ratedPower", "(I)I"⟩
abbrev cX4_isRunning : ByteArray := prog_1_method_13_code
def yX4_isRunning : MethodName := ⟨RX4, "isRunning", "(I)Z"⟩
abbrev cX4_isFailed : ByteArray := prog_1_method_14_code
def yX4_isFailed : MethodName := ⟨RX4, "isFailed", "(I)Z"⟩
abbrev cX4_isInService : ByteArray := prog_1_method_15_code
def yX4_isInService : MethodName := ⟨RX4, "isInService", "(I)Z"⟩
abbrev cX4_limitOf : ByteArray := prog_1_method_16_code
def yX4_limitOf : MethodName := ⟨RX4, "limitOf", "(I)I"⟩
abbrev cX4_serviceHoursLeft : ByteArray := prog_1_method_17_code
def yX4_serviceHoursLeft : MethodName := ⟨RX4, "serviceHoursLeft", "(I)I"⟩
abbrev cX4_freeCrews : ByteArray := prog_1_method_18_code
def yX4_freeCrews : MethodName := ⟨RX4, "freeCrews", "()I"⟩
abbrev cX4_setWind : ByteArray := prog_1_method_19_code
def yX4_setWind : MethodName := ⟨RX4, "setWind", "(CI)I"⟩
abbrev cX4_windDirection : ByteArray := prog_1_method_20_code
def yX4_windDirection : MethodName := ⟨RX4, "windDirection", "()C"⟩
abbrev cX4_windSpeed : ByteArray := prog_1_method_21_code
def yX4_windSpeed : MethodName := ⟨RX4, "windSpeed", "()I"⟩
abbrev cX4_powerFactor : ByteArray := prog_1_method_22_code
def yX4_powerFactor : MethodName := ⟨RX4, "powerFactor", "()I"⟩
abbrev cX4_wakeLoss : ByteArray := prog_1_method_23_code
def yX4_wakeLoss : MethodName := ⟨RX4, "wakeLoss", "(I)I"⟩
abbrev cX4_availablePower : ByteArray := prog_1_method_24_code
def yX4_availablePower : MethodName := ⟨RX4, "availablePower", "(I)I"⟩
abbrev cX4_outputOf : ByteArray := prog_1_method_25_code
def yX4_outputOf : MethodName := ⟨RX4, "outputOf", "(I)I"⟩
abbrev cX4_totalOutput : ByteArray := prog_1_method_26_code
def yX4_totalOutput : MethodName := ⟨RX4, "totalOutput", "()I"⟩
abbrev cX4_totalOutputByLines : ByteArray := prog_1_method_27_code
def yX4_totalOutputByLines : MethodName := ⟨RX4, "totalOutputByLines", "()I"⟩
abbrev cX4_outputWith : ByteArray := prog_1_method_28_code
def yX4_outputWith : MethodName := ⟨RX4, "outputWith", "(CI)I"⟩
abbrev cX4_bestDirection : ByteArray := prog_1_method_29_code
def yX4_bestDirection : MethodName := ⟨RX4, "bestDirection", "()C"⟩
abbrev cX4_setGridLimit : ByteArray := prog_1_method_30_code
def yX4_setGridLimit : MethodName := ⟨RX4, "setGridLimit", "(I)I"⟩
abbrev cX4_gridLimit : ByteArray := prog_1_method_31_code
def yX4_gridLimit : MethodName := ⟨RX4, "gridLimit", "()I"⟩
abbrev cX4_dispatch : ByteArray := prog_1_method_32_code
def yX4_dispatch : MethodName := ⟨RX4, "dispatch", "()I"⟩
abbrev cX4_releaseAll : ByteArray := prog_1_method_33_code
def yX4_releaseAll : MethodName := ⟨RX4, "releaseAll", "()I"⟩
abbrev cX4_placeBid : ByteArray := prog_1_method_34_code
def yX4_placeBid : MethodName := ⟨RX4, "placeBid", "(III)I"⟩
abbrev cX4_withdrawBid : ByteArray := prog_1_method_35_code
def yX4_withdrawBid : MethodName := ⟨RX4, "withdrawBid", "(I)I"⟩
abbrev cX4_hasBid : ByteArray := prog_1_method_36_code
def yX4_hasBid : MethodName := ⟨RX4, "hasBid", "(I)Z"⟩
abbrev cX4_bidPrice : ByteArray := prog_1_method_37_code
def yX4_bidPrice : MethodName := ⟨RX4, "bidPrice", "(I)I"⟩
abbrev cX4_bidQuantity : ByteArray := prog_1_method_38_code
def yX4_bidQuantity : MethodName := ⟨RX4, "bidQuantity", "(I)I"⟩
abbrev cX4_bidByPrice : ByteArray := prog_1_method_39_code
def yX4_bidByPrice : MethodName := ⟨RX4, "bidByPrice", "(I)I"⟩
abbrev cX4_passHours : ByteArray := prog_1_method_40_code
def yX4_passHours : MethodName := ⟨RX4, "passHours", "(I)I"⟩
abbrev cX4_time : ByteArray := prog_1_method_41_code
def yX4_time : MethodName := ⟨RX4, "time", "()I"⟩
abbrev cX4_incomeWithin : ByteArray := prog_1_method_42_code
def yX4_incomeWithin : MethodName := ⟨RX4, "incomeWithin", "(I)I"⟩
abbrev cX4_hoursToBid : ByteArray := prog_1_method_43_code
def yX4_hoursToBid : MethodName := ⟨RX4, "hoursToBid", "()I"⟩
abbrev cX4_energyMade : ByteArray := prog_1_method_44_code
def yX4_energyMade : MethodName := ⟨RX4, "energyMade", "()J"⟩
abbrev cX4_energyLost : ByteArray := prog_1_method_45_code
def yX4_energyLost : MethodName := ⟨RX4, "energyLost", "()J"⟩
abbrev cX4_energySold : ByteArray := prog_1_method_46_code
def yX4_energySold : MethodName := ⟨RX4, "energySold", "()J"⟩
abbrev cX4_energySpilled : ByteArray := prog_1_method_47_code
def yX4_energySpilled : MethodName := ⟨RX4, "energySpilled", "()J"⟩
abbrev cX4_coins : ByteArray := prog_1_method_48_code
def yX4_coins : MethodName := ⟨RX4, "coins", "()J"⟩
abbrev cX4_turbineByOutput : ByteArray := prog_1_method_49_code
def yX4_turbineByOutput : MethodName := ⟨RX4, "turbineByOutput", "(I)I"⟩
abbrev cX4_meanOutput : ByteArray := prog_1_method_50_code
def yX4_meanOutput : MethodName := ⟨RX4, "meanOutput", "()D"⟩
abbrev cX4_runningShare : ByteArray := prog_1_method_51_code
def yX4_runningShare : MethodName := ⟨RX4, "runningShare", "()F"⟩
abbrev cX4_isConsistent : ByteArray := prog_1_method_52_code
def yX4_isConsistent : MethodName := ⟨RX4, "isConsistent", "()Z"⟩
abbrev cX4_writeTurbine : ByteArray := prog_1_method_53_code
def yX4_writeTurbine : MethodName := ⟨RX4, "writeTurbine", "(I)I"⟩
abbrev cX4_outputAt : ByteArray := prog_1_method_54_code
def yX4_outputAt : MethodName := ⟨RX4, "outputAt", "(I)C"⟩
abbrev cX4_appendInput : ByteArray := prog_1_method_55_code
def yX4_appendInput : MethodName := ⟨RX4, "appendInput", "(C)I"⟩
abbrev cX4_execute : ByteArray := prog_1_method_56_code
def yX4_execute : MethodName := ⟨RX4, "execute", "()I"⟩
abbrev cX4_syntaxErrorOffset : ByteArray := prog_1_method_57_code
def yX4_syntaxErrorOffset : MethodName := ⟨RX4, "syntaxErrorOffset", "()I"⟩
abbrev cX4_rejectionReason : ByteArray := prog_1_method_58_code
def yX4_rejectionReason : MethodName := ⟨RX4, "rejectionReason", "()I"⟩
abbrev cX4_rejectionDetail : ByteArray := prog_1_method_59_code
def yX4_rejectionDetail : MethodName := ⟨RX4, "rejectionDetail", "()I"⟩
abbrev cX4_causeReason : ByteArray := prog_1_method_60_code
def yX4_causeReason : MethodName := ⟨RX4, "causeReason", "()I"⟩
abbrev cX4_undo : ByteArray := prog_1_method_61_code
def yX4_undo : MethodName := ⟨RX4, "undo", "()I"⟩
abbrev cX4_saveSnapshot : ByteArray := prog_1_method_62_code
def yX4_saveSnapshot : MethodName := ⟨RX4, "saveSnapshot", "()I"⟩
abbrev cX4_restoreSnapshot : ByteArray := prog_1_method_63_code
def yX4_restoreSnapshot : MethodName := ⟨RX4, "restoreSnapshot", "()I"⟩
abbrev cX4_admit : ByteArray := prog_1_method_64_code
def yX4_admit : MethodName := ⟨RX4, "admit", "(CIII)V"⟩
abbrev cX4_refuseCommand : ByteArray := prog_1_method_65_code
def yX4_refuseCommand : MethodName := ⟨RX4, "refuseCommand", "(II)V"⟩
abbrev cX4_reject : ByteArray := prog_1_method_66_code
def yX4_reject : MethodName := ⟨RX4, "reject", "(III)V"⟩
abbrev cX4_requireTurbine : ByteArray := prog_1_method_67_code
def yX4_requireTurbine : MethodName := ⟨RX4, "requireTurbine", "(I)V"⟩
abbrev cX4_requireHour : ByteArray := prog_1_method_68_code
def yX4_requireHour : MethodName := ⟨RX4, "requireHour", "(I)V"⟩
abbrev cX4_requireBid : ByteArray := prog_1_method_69_code
def yX4_requireBid : MethodName := ⟨RX4, "requireBid", "(I)V"⟩
abbrev cX4_requireRejection : ByteArray := prog_1_method_70_code
def yX4_requireRejection : MethodName := ⟨RX4, "requireRejection", "()V"⟩
abbrev cX4_writeNumber : ByteArray := prog_1_method_71_code
def yX4_writeNumber : MethodName := ⟨RX4, "writeNumber", "(CI)V"⟩
abbrev cX4_isWithin : ByteArray := prog_1_method_72_code
def yX4_isWithin : MethodName := ⟨RX4, "isWithin", "(III)Z"⟩
abbrev cX4_isCell : ByteArray := prog_1_method_73_code
def yX4_isCell : MethodName := ⟨RX4, "isCell", "(II)Z"⟩
abbrev cX4_isHourOfDay : ByteArray := prog_1_method_74_code
def yX4_isHourOfDay : MethodName := ⟨RX4, "isHourOfDay", "(I)Z"⟩
abbrev cX4_isDirection : ByteArray := prog_1_method_75_code
def yX4_isDirection : MethodName := ⟨RX4, "isDirection", "(I)Z"⟩
abbrev cX4_isWind : ByteArray := prog_1_method_76_code
def yX4_isWind : MethodName := ⟨RX4, "isWind", "(II)Z"⟩
abbrev cX4_factorOf : ByteArray := prog_1_method_77_code
def yX4_factorOf : MethodName := ⟨RX4, "factorOf", "(I)I"⟩
abbrev cX4_valueAt : ByteArray := prog_1_method_78_code
def yX4_valueAt : MethodName := ⟨RX4, "valueAt", "([II)I"⟩
abbrev cX4_setValue : ByteArray := prog_1_method_79_code
def yX4_setValue : MethodName := ⟨RX4, "setValue", "([III)V"⟩
def RX5 : String := "WindFarmDispatcherModel"
def TX5 : u_T := fun k => match k with
  | 0 => ("WindFarmDispatcherModel", "thrown", "I", false)
  | 1 => ("WindFarmDispatcherModel", "all", "[I", true)
  | 2 => ("WindFarmDispatcherModel", "changes", "I", false)
  | 3 => ("WindFarmDispatcherModel", "isSaved", "Z", false)
  | 4 => ("WindFarmDispatcherModel", "result", "I", false)
  | 5 => ("WindFarmDispatcherModel", "why", "I", false)
  | 6 => ("WindFarmDispatcherModel", "detail", "I", false)
  | 7 => ("WindFarmDispatcherModel", "cause", "I", false)
  | 8 => ("WindFarmDispatcherModel", "line", "[C", true)
  | 9 => ("WindFarmDispatcherModel", "lineSize", "I", false)
  | 10 => ("WindFarmDispatcherModel", "input", "[C", true)
  | 11 => ("WindFarmDispatcherModel", "typed", "I", false)
  | 12 => ("WindFarmDispatcherModel", "here", "I", false)
  | 13 => ("WindFarmDispatcherModel", "error", "I", false)
  | 14 => ("WindFarmDispatcherModel", "errorAt", "I", false)
  | 15 => ("WindFarmDispatcherModel", "commands", "[I", true)
  | _ => ("WindFarmDispatcherModel", "commandMany", "I", false)
def tyX5 : Nat → FieldType := fun k => match k with
  | 0 => .int
  | 1 => .array .int
  | 2 => .int
  | 3 => .boolean
  | 4 => .int
  | 5 => .int
  | 6 => .int
  | 7 => .int
  | 8 => .array .char
  | 9 => .int
  | 10 => .array .char
  | 11 => .int
  | 12 => .int
  | 13 => .int
  | 14 => .int
  | 15 => .array .int
  | _ => .int
abbrev wsX50 : List Cond := u_ws RX5 TX5 17
theorem nmX5 : ∀ a, a < 17 → ∀ b, b < 17 → a ≠ b → (TX5 a).2.1 ≠ (TX5 b).2.1 := by decide +kernel
theorem tyX5_ok : ∀ k, k < 17 → parseFieldDescriptor (TX5 k).2.2.1 = some (tyX5 k) := by decide +kernel
abbrev cX5_init : ByteArray := prog_7_method_1_code
def yX5_init : MethodName := ⟨RX5, "<init>", "()V"⟩
abbrev cX5_thrown : ByteArray := prog_7_method_2_code
def yX5_thrown : MethodName := ⟨RX5, "thrown", "()I"⟩
abbrev cX5_in : ByteArray := prog_7_method_3_code
def yX5_in : MethodName := ⟨RX5, "in", "(III)Z"⟩
abbrev cX5_copies : ByteArray := prog_7_method_4_code
def yX5_copies : MethodName := ⟨RX5, "copies", "(II)V"⟩
abbrev cX5_begins : ByteArray := prog_7_method_5_code
def yX5_begins : MethodName := ⟨RX5, "begins", "()V"⟩
abbrev cX5_ends : ByteArray := prog_7_method_6_code
def yX5_ends : MethodName := ⟨RX5, "ends", "(IIII)I"⟩
abbrev cX5_isFine : ByteArray := prog_7_method_7_code
def yX5_isFine : MethodName := ⟨RX5, "isFine", "(Z)Z"⟩
abbrev cX5_rejects : ByteArray := prog_7_method_8_code
def yX5_rejects : MethodName := ⟨RX5, "rejects", "(ZII)Z"⟩
abbrev cX5_rejectionReason : ByteArray := prog_7_method_9_code
def yX5_rejectionReason : MethodName := ⟨RX5, "rejectionReason", "()I"⟩
abbrev cX5_rejectionDetail : ByteArray := prog_7_method_10_code
def yX5_rejectionDetail : MethodName := ⟨RX5, "rejectionDetail", "()I"⟩
abbrev cX5_causeReason : ByteArray := prog_7_method_11_code
def yX5_causeReason : MethodName := ⟨RX5, "causeReason", "()I"⟩
abbrev cX5_t : ByteArray := prog_7_method_12_code
def yX5_t : MethodName := ⟨RX5, "t", "(II)I"⟩
abbrev cX5_set : ByteArray := prog_7_method_13_code
def yX5_set : MethodName := ⟨RX5, "set", "(III)V"⟩
abbrev cX5_isTurbine : ByteArray := prog_7_method_14_code
def yX5_isTurbine : MethodName := ⟨RX5, "isTurbine", "(I)Z"⟩
abbrev cX5_isCell : ByteArray := prog_7_method_15_code
def yX5_isCell : MethodName := ⟨RX5, "isCell", "(II)Z"⟩
abbrev cX5_inCell : ByteArray := prog_7_method_16_code
def yX5_inCell : MethodName := ⟨RX5, "inCell", "(II)I"⟩
abbrev cX5_factorOf : ByteArray := prog_7_method_17_code
def yX5_factorOf : MethodName := ⟨RX5, "factorOf", "(I)I"⟩
abbrev cX5_wakeOf : ByteArray := prog_7_method_18_code
def yX5_wakeOf : MethodName := ⟨RX5, "wakeOf", "(II)I"⟩
abbrev cX5_lossOf : ByteArray := prog_7_method_19_code
def yX5_lossOf : MethodName := ⟨RX5, "lossOf", "(I)I"⟩
abbrev cX5_available : ByteArray := prog_7_method_20_code
def yX5_available : MethodName := ⟨RX5, "available", "(I)I"⟩
abbrev cX5_output : ByteArray := prog_7_method_21_code
def yX5_output : MethodName := ⟨RX5, "output", "(I)I"⟩
abbrev cX5_total : ByteArray := prog_7_method_22_code
def yX5_total : MethodName := ⟨RX5, "total", "()I"⟩
abbrev cX5_inState : ByteArray := prog_7_method_23_code
def yX5_inState : MethodName := ⟨RX5, "inState", "(I)I"⟩
abbrev cX5_firstInService : ByteArray := prog_7_method_24_code
def yX5_firstInService : MethodName := ⟨RX5, "firstInService", "()I"⟩
abbrev cX5_wayOf : ByteArray := prog_7_method_25_code
def yX5_wayOf : MethodName := ⟨RX5, "wayOf", "(I)I"⟩
abbrev cX5_signOf : ByteArray := prog_7_method_26_code
def yX5_signOf : MethodName := ⟨RX5, "signOf", "(I)C"⟩
abbrev cX5_adds : ByteArray := prog_7_method_27_code
def yX5_adds : MethodName := ⟨RX5, "adds", "(III)I"⟩
abbrev cX5_addTurbine : ByteArray := prog_7_method_28_code
def yX5_addTurbine : MethodName := ⟨RX5, "addTurbine", "(III)I"⟩
abbrev cX5_fails : ByteArray := prog_7_method_29_code
def yX5_fails : MethodName := ⟨RX5, "fails", "(I)I"⟩
abbrev cX5_fail : ByteArray := prog_7_method_30_code
def yX5_fail : MethodName := ⟨RX5, "fail", "(I)I"⟩
abbrev cX5_sends : ByteArray := prog_7_method_31_code
def yX5_sends : MethodName := ⟨RX5, "sends", "(II)I"⟩
abbrev cX5_sendCrew : ByteArray := prog_7_method_32_code
def yX5_sendCrew : MethodName := ⟨RX5, "sendCrew", "(II)I"⟩
abbrev cX5_recalls : ByteArray := prog_7_method_33_code
def yX5_recalls : MethodName := ⟨RX5, "recalls", "(I)I"⟩
abbrev cX5_recallCrew : ByteArray := prog_7_method_34_code
def yX5_recallCrew : MethodName := ⟨RX5, "recallCrew", "(I)I"⟩
abbrev cX5_curtails : ByteArray := prog_7_method_35_code
def yX5_curtails : MethodName := ⟨RX5, "curtails", "(II)I"⟩
abbrev cX5_curtail : ByteArray := prog_7_method_36_code
def yX5_curtail : MethodName := ⟨RX5, "curtail", "(II)I"⟩
abbrev cX5_releases : ByteArray := prog_7_method_37_code
def yX5_releases : MethodName := ⟨RX5, "releases", "(I)I"⟩
abbrev cX5_release : ByteArray := prog_7_method_38_code
def yX5_release : MethodName := ⟨RX5, "release", "(I)I"⟩
abbrev cX5_blows : ByteArray := prog_7_method_39_code
def yX5_blows : MethodName := ⟨RX5, "blows", "(II)I"⟩
abbrev cX5_setWind : ByteArray := prog_7_method_40_code
def yX5_setWind : MethodName := ⟨RX5, "setWind", "(CI)I"⟩
abbrev cX5_limits : ByteArray := prog_7_method_41_code
def yX5_limits : MethodName := ⟨RX5, "limits", "(I)I"⟩
abbrev cX5_setGridLimit : ByteArray := prog_7_method_42_code
def yX5_setGridLimit : MethodName := ⟨RX5, "setGridLimit", "(I)I"⟩
abbrev cX5_dispatches : ByteArray := prog_7_method_43_code
def yX5_dispatches : MethodName := ⟨RX5, "dispatches", "()I"⟩
abbrev cX5_dispatch : ByteArray := prog_7_method_44_code
def yX5_dispatch : MethodName := ⟨RX5, "dispatch", "()I"⟩
abbrev cX5_releasesAll : ByteArray := prog_7_method_45_code
def yX5_releasesAll : MethodName := ⟨RX5, "releasesAll", "()I"⟩
abbrev cX5_releaseAll : ByteArray := prog_7_method_46_code
def yX5_releaseAll : MethodName := ⟨RX5, "releaseAll", "()I"⟩
abbrev cX5_isHour : ByteArray := prog_7_method_47_code
def yX5_isHour : MethodName := ⟨RX5, "isHour", "(I)Z"⟩
abbrev cX5_price : ByteArray := prog_7_method_48_code
def yX5_price : MethodName := ⟨RX5, "price", "(I)I"⟩
abbrev cX5_quantity : ByteArray := prog_7_method_49_code
def yX5_quantity : MethodName := ⟨RX5, "quantity", "(I)I"⟩
abbrev cX5_bids : ByteArray := prog_7_method_50_code
def yX5_bids : MethodName := ⟨RX5, "bids", "()I"⟩
abbrev cX5_places : ByteArray := prog_7_method_51_code
def yX5_places : MethodName := ⟨RX5, "places", "(III)I"⟩
abbrev cX5_placeBid : ByteArray := prog_7_method_52_code
def yX5_placeBid : MethodName := ⟨RX5, "placeBid", "(III)I"⟩
abbrev cX5_withdraws : ByteArray := prog_7_method_53_code
def yX5_withdraws : MethodName := ⟨RX5, "withdraws", "(I)I"⟩
abbrev cX5_withdrawBid : ByteArray := prog_7_method_54_code
def yX5_withdrawBid : MethodName := ⟨RX5, "withdrawBid", "(I)I"⟩
abbrev cX5_passes : ByteArray := prog_7_method_55_code
def yX5_passes : MethodName := ⟨RX5, "passes", "()V"⟩
abbrev cX5_passesHours : ByteArray := prog_7_method_56_code
def yX5_passesHours : MethodName := ⟨RX5, "passesHours", "(I)I"⟩
abbrev cX5_passHours : ByteArray := prog_7_method_57_code
def yX5_passHours : MethodName := ⟨RX5, "passHours", "(I)I"⟩
abbrev cX5_turbineCount : ByteArray := prog_7_method_58_code
def yX5_turbineCount : MethodName := ⟨RX5, "turbineCount", "()I"⟩
abbrev cX5_turbineAt : ByteArray := prog_7_method_59_code
def yX5_turbineAt : MethodName := ⟨RX5, "turbineAt", "(II)I"⟩
abbrev cX5_ofTurbine : ByteArray := prog_7_method_60_code
def yX5_ofTurbine : MethodName := ⟨RX5, "ofTurbine", "(II)I"⟩
abbrev cX5_rowOf : ByteArray := prog_7_method_61_code
def yX5_rowOf : MethodName := ⟨RX5, "rowOf", "(I)I"⟩
abbrev cX5_columnOf : ByteArray := prog_7_method_62_code
def yX5_columnOf : MethodName := ⟨RX5, "columnOf", "(I)I"⟩
abbrev cX5_ratedPower : ByteArray := prog_7_method_63_code
def yX5_ratedPower : MethodName := ⟨RX5, "ratedPower", "(I)I"⟩
abbrev cX5_isRunning : ByteArray := prog_7_method_64_code
def yX5_isRunning : MethodName := ⟨RX5, "isRunning", "(I)Z"⟩
abbrev cX5_isFailed : ByteArray := prog_7_method_65_code
def yX5_isFailed : MethodName := ⟨RX5, "isFailed", "(I)Z"⟩
abbrev cX5_isInService : ByteArray := prog_7_method_66_code
def yX5_isInService : MethodName := ⟨RX5, "isInService", "(I)Z"⟩
abbrev cX5_limitOf : ByteArray := prog_7_method_67_code
def yX5_limitOf : MethodName := ⟨RX5, "limitOf", "(I)I"⟩
abbrev cX5_serviceHoursLeft : ByteArray := prog_7_method_68_code
def yX5_serviceHoursLeft : MethodName := ⟨RX5, "serviceHoursLeft", "(I)I"⟩
abbrev cX5_freeCrews : ByteArray := prog_7_method_69_code
def yX5_freeCrews : MethodName := ⟨RX5, "freeCrews", "()I"⟩
abbrev cX5_windDirection : ByteArray := prog_7_method_70_code
def yX5_windDirection : MethodName := ⟨RX5, "windDirection", "()C"⟩
abbrev cX5_windSpeed : ByteArray := prog_7_method_71_code
def yX5_windSpeed : MethodName := ⟨RX5, "windSpeed", "()I"⟩
abbrev cX5_powerFactor : ByteArray := prog_7_method_72_code
def yX5_powerFactor : MethodName := ⟨RX5, "powerFactor", "()I"⟩
abbrev cX5_wakeLoss : ByteArray := prog_7_method_73_code
def yX5_wakeLoss : MethodName := ⟨RX5, "wakeLoss", "(I)I"⟩
abbrev cX5_availablePower : ByteArray := prog_7_method_74_code
def yX5_availablePower : MethodName := ⟨RX5, "availablePower", "(I)I"⟩
abbrev cX5_outputOf : ByteArray := prog_7_method_75_code
def yX5_outputOf : MethodName := ⟨RX5, "outputOf", "(I)I"⟩
abbrev cX5_totalOutput : ByteArray := prog_7_method_76_code
def yX5_totalOutput : MethodName := ⟨RX5, "totalOutput", "()I"⟩
abbrev cX5_totalOutputByLines : ByteArray := prog_7_method_77_code
def yX5_totalOutputByLines : MethodName := ⟨RX5, "totalOutputByLines", "()I"⟩
abbrev cX5_totalWith : ByteArray := prog_7_method_78_code
def yX5_totalWith : MethodName := ⟨RX5, "totalWith", "(II)I"⟩
abbrev cX5_outputWith : ByteArray := prog_7_method_79_code
def yX5_outputWith : MethodName := ⟨RX5, "outputWith", "(CI)I"⟩
abbrev cX5_bestDirection : ByteArray := prog_7_method_80_code
def yX5_bestDirection : MethodName := ⟨RX5, "bestDirection", "()C"⟩
abbrev cX5_gridLimit : ByteArray := prog_7_method_81_code
def yX5_gridLimit : MethodName := ⟨RX5, "gridLimit", "()I"⟩
abbrev cX5_hasBid : ByteArray := prog_7_method_82_code
def yX5_hasBid : MethodName := ⟨RX5, "hasBid", "(I)Z"⟩
abbrev cX5_isBid : ByteArray := prog_7_method_83_code
def yX5_isBid : MethodName := ⟨RX5, "isBid", "(I)Z"⟩
abbrev cX5_bidPrice : ByteArray := prog_7_method_84_code
def yX5_bidPrice : MethodName := ⟨RX5, "bidPrice", "(I)I"⟩
abbrev cX5_bidQuantity : ByteArray := prog_7_method_85_code
def yX5_bidQuantity : MethodName := ⟨RX5, "bidQuantity", "(I)I"⟩
abbrev cX5_bidByPrice : ByteArray := prog_7_method_86_code
def yX5_bidByPrice : MethodName := ⟨RX5, "bidByPrice", "(I)I"⟩
abbrev cX5_time : ByteArray := prog_7_method_87_code
def yX5_time : MethodName := ⟨RX5, "time", "()I"⟩
abbrev cX5_incomeWithin : ByteArray := prog_7_method_88_code
def yX5_incomeWithin : MethodName := ⟨RX5, "incomeWithin", "(I)I"⟩
abbrev cX5_hoursToBid : ByteArray := prog_7_method_89_code
def yX5_hoursToBid : MethodName := ⟨RX5, "hoursToBid", "()I"⟩
abbrev cX5_energyMade : ByteArray := prog_7_method_90_code
def yX5_energyMade : MethodName := ⟨RX5, "energyMade", "()J"⟩
abbrev cX5_energyLost : ByteArray := prog_7_method_91_code
def yX5_energyLost : MethodName := ⟨RX5, "energyLost", "()J"⟩
abbrev cX5_energySold : ByteArray := prog_7_method_92_code
def yX5_energySold : MethodName := ⟨RX5, "energySold", "()J"⟩
abbrev cX5_energySpilled : ByteArray := prog_7_method_93_code
def yX5_energySpilled : MethodName := ⟨RX5, "energySpilled", "()J"⟩
abbrev cX5_coins : ByteArray := prog_7_method_94_code
def yX5_coins : MethodName := ⟨RX5, "coins", "()J"⟩
abbrev cX5_turbineByOutput : ByteArray := prog_7_method_95_code
def yX5_turbineByOutput : MethodName := ⟨RX5, "turbineByOutput", "(I)I"⟩
abbrev cX5_meanOutput : ByteArray := prog_7_method_96_code
def yX5_meanOutput : MethodName := ⟨RX5, "meanOutput", "()D"⟩
abbrev cX5_runningShare : ByteArray := prog_7_method_97_code
def yX5_runningShare : MethodName := ⟨RX5, "runningShare", "()F"⟩
abbrev cX5_isConsistent : ByteArray := prog_7_method_98_code
def yX5_isConsistent : MethodName := ⟨RX5, "isConsistent", "()Z"⟩
abbrev cX5_writes : ByteArray := prog_7_method_99_code
def yX5_writes : MethodName := ⟨RX5, "writes", "(I)V"⟩
abbrev cX5_writesNumber : ByteArray := prog_7_method_100_code
def yX5_writesNumber : MethodName := ⟨RX5, "writesNumber", "(I)V"⟩
abbrev cX5_writesBehind : ByteArray := prog_7_method_101_code
def yX5_writesBehind : MethodName := ⟨RX5, "writesBehind", "(II)V"⟩
abbrev cX5_writeTurbine : ByteArray := prog_7_method_102_code
def yX5_writeTurbine : MethodName := ⟨RX5, "writeTurbine", "(I)I"⟩
abbrev cX5_outputAt : ByteArray := prog_7_method_103_code
def yX5_outputAt : MethodName := ⟨RX5, "outputAt", "(I)C"⟩
abbrev cX5_appendInput : ByteArray := prog_7_method_104_code
def yX5_appendInput : MethodName := ⟨RX5, "appendInput", "(C)I"⟩
abbrev cX5_sign : ByteArray := prog_7_method_105_code
def yX5_sign : MethodName := ⟨RX5, "sign", "()I"⟩
abbrev cX5_needs : ByteArray := prog_7_method_106_code
def yX5_needs : MethodName := ⟨RX5, "needs", "(I)V"⟩
abbrev cX5_number : ByteArray := prog_7_method_107_code
def yX5_number : MethodName := ⟨RX5, "number", "(I)I"⟩
abbrev cX5_behind : ByteArray := prog_7_method_108_code
def yX5_behind : MethodName := ⟨RX5, "behind", "(I)I"⟩
abbrev cX5_way : ByteArray := prog_7_method_109_code
def yX5_way : MethodName := ⟨RX5, "way", "()I"⟩
abbrev cX5_isLetter : ByteArray := prog_7_method_110_code
def yX5_isLetter : MethodName := ⟨RX5, "isLetter", "(I)Z"⟩
abbrev cX5_command : ByteArray := prog_7_method_111_code
def yX5_command : MethodName := ⟨RX5, "command", "()V"⟩
abbrev cX5_parse : ByteArray := prog_7_method_112_code
def yX5_parse : MethodName := ⟨RX5, "parse", "()V"⟩
abbrev cX5_does : ByteArray := prog_7_method_113_code
def yX5_does : MethodName := ⟨RX5, "does", "(I)I"⟩
abbrev cX5_execute : ByteArray := prog_7_method_114_code
def yX5_execute : MethodName := ⟨RX5, "execute", "()I"⟩
abbrev cX5_syntaxErrorOffset : ByteArray := prog_7_method_115_code
def yX5_syntaxErrorOffset : MethodName := ⟨RX5, "syntaxErrorOffset", "()I"⟩
abbrev cX5_undo : ByteArray := prog_7_method_116_code
def yX5_undo : MethodName := ⟨RX5, "undo", "()I"⟩
abbrev cX5_saveSnapshot : ByteArray := prog_7_method_117_code
def yX5_saveSnapshot : MethodName := ⟨RX5, "saveSnapshot", "()I"⟩
abbrev cX5_restoreSnapshot : ByteArray := prog_7_method_118_code
def yX5_restoreSnapshot : MethodName := ⟨RX5, "restoreSnapshot", "()I"⟩
def RJ0 : String := "java/lang/String"
def TJ0 : u_T := fun k => match k with
  | 0 => ("java/lang/String", "value", "[B", true)
  | _ => ("java/lang/String", "coder", "B", true)
def tyJ0 : Nat → FieldType := fun k => match k with
  | 0 => .array .byte
  | _ => .byte
abbrev wsJ00 : List Cond := u_ws RJ0 TJ0 2
theorem nmJ0 : ∀ a, a < 2 → ∀ b, b < 2 → a ≠ b → (TJ0 a).2.1 ≠ (TJ0 b).2.1 := by decide +kernel
theorem tyJ0_ok : ∀ k, k < 2 → parseFieldDescriptor (TJ0 k).2.2.1 = some (tyJ0 k) := by decide +kernel
abbrev cJ0_length_8abf5 : ByteArray := prog_19_method_54_code
def yJ0_length_8abf5 : MethodName := ⟨RJ0, "length", "()I"⟩
abbrev cJ0_charAt_5068e : ByteArray := prog_19_method_56_code
def yJ0_charAt_5068e : MethodName := ⟨RJ0, "charAt", "(I)C"⟩
abbrev cJ0_coder_7d493 : ByteArray := prog_19_method_152_code
def yJ0_coder_7d493 : MethodName := ⟨RJ0, "coder", "()B"⟩
abbrev cJ0_isLatin1_aae02 : ByteArray := prog_19_method_154_code
def yJ0_isLatin1_aae02 : MethodName := ⟨RJ0, "isLatin1", "()Z"⟩
abbrev cJ0_checkIndex_df160 : ByteArray := prog_19_method_155_code
def yJ0_checkIndex_df160 : MethodName := ⟨RJ0, "checkIndex", "(II)V"⟩
def RJ1 : String := "java/lang/StringLatin1"
abbrev cJ1_charAt_3b067 : ByteArray := prog_20_method_2_code
def yJ1_charAt_3b067 : MethodName := ⟨RJ1, "charAt", "([BI)C"⟩
def RJ2 : String := "java/lang/StringUTF16"
def RJ3 : String := "jdk/internal/util/Preconditions"
abbrev cJ3_checkIndex_8e157 : ByteArray := prog_27_method_11_code
def yJ3_checkIndex_8e157 : MethodName := ⟨RJ3, "checkIndex", "(IILjava/util/function/BiFunction;)I"⟩
def RL : String := "WindFarmDispatcherLaw"
abbrev cL_addTurbine : ByteArray := method_3_code
def yL_addTurbine : MethodName := ⟨RL, "addTurbine", "(LWindFarmDispatcher;III[J)I"⟩
abbrev cL_fail : ByteArray := method_4_code
def yL_fail : MethodName := ⟨RL, "fail", "(LWindFarmDispatcher;I[J)I"⟩
abbrev cL_sendCrew : ByteArray := method_5_code
def yL_sendCrew : MethodName := ⟨RL, "sendCrew", "(LWindFarmDispatcher;II[J)I"⟩
abbrev cL_recallCrew : ByteArray := method_6_code
def yL_recallCrew : MethodName := ⟨RL, "recallCrew", "(LWindFarmDispatcher;I[J)I"⟩
abbrev cL_curtail : ByteArray := method_7_code
def yL_curtail : MethodName := ⟨RL, "curtail", "(LWindFarmDispatcher;II[J)I"⟩
abbrev cL_release : ByteArray := method_8_code
def yL_release : MethodName := ⟨RL, "release", "(LWindFarmDispatcher;I[J)I"⟩
abbrev cL_turbineAt : ByteArray := method_9_code
def yL_turbineAt : MethodName := ⟨RL, "turbineAt", "(LWindFarmDispatcher;II[J)I"⟩
abbrev cL_rowOf : ByteArray := method_10_code
def yL_rowOf : MethodName := ⟨RL, "rowOf", "(LWindFarmDispatcher;I[J)I"⟩
abbrev cL_columnOf : ByteArray := method_11_code
def yL_columnOf : MethodName := ⟨RL, "columnOf", "(LWindFarmDispatcher;I[J)I"⟩
abbrev cL_ratedPower : ByteArray := method_12_code
def yL_ratedPower : MethodName := ⟨RL, "ratedPower", "(LWindFarmDispatcher;I[J)I"⟩
abbrev cL_isRunning : ByteArray := method_13_code
def yL_isRunning : MethodName := ⟨RL, "isRunning", "(LWindFarmDispatcher;I[J)I"⟩
abbrev cL_isFailed : ByteArray := method_14_code
def yL_isFailed : MethodName := ⟨RL, "isFailed", "(LWindFarmDispatcher;I[J)I"⟩
abbrev cL_isInService : ByteArray := method_15_code
def yL_isInService : MethodName := ⟨RL, "isInService", "(LWindFarmDispatcher;I[J)I"⟩
abbrev cL_limitOf : ByteArray := method_16_code
def yL_limitOf : MethodName := ⟨RL, "limitOf", "(LWindFarmDispatcher;I[J)I"⟩
abbrev cL_serviceHoursLeft : ByteArray := method_17_code
def yL_serviceHoursLeft : MethodName := ⟨RL, "serviceHoursLeft", "(LWindFarmDispatcher;I[J)I"⟩
abbrev cL_setWind : ByteArray := method_18_code
def yL_setWind : MethodName := ⟨RL, "setWind", "(LWindFarmDispatcher;CI[J)I"⟩
abbrev cL_wakeLoss : ByteArray := method_19_code
def yL_wakeLoss : MethodName := ⟨RL, "wakeLoss", "(LWindFarmDispatcher;I[J)I"⟩
abbrev cL_availablePower : ByteArray := method_20_code
def yL_availablePower : MethodName := ⟨RL, "availablePower", "(LWindFarmDispatcher;I[J)I"⟩
abbrev cL_outputOf : ByteArray := method_21_code
def yL_outputOf : MethodName := ⟨RL, "outputOf", "(LWindFarmDispatcher;I[J)I"⟩
abbrev cL_outputWith : ByteArray := method_22_code
def yL_outputWith : MethodName := ⟨RL, "outputWith", "(LWindFarmDispatcher;CI[J)I"⟩
abbrev cL_setGridLimit : ByteArray := method_23_code
def yL_setGridLimit : MethodName := ⟨RL, "setGridLimit", "(LWindFarmDispatcher;I[J)I"⟩
abbrev cL_placeBid : ByteArray := method_24_code
def yL_placeBid : MethodName := ⟨RL, "placeBid", "(LWindFarmDispatcher;III[J)I"⟩
abbrev cL_withdrawBid : ByteArray := method_25_code
def yL_withdrawBid : MethodName := ⟨RL, "withdrawBid", "(LWindFarmDispatcher;I[J)I"⟩
abbrev cL_hasBid : ByteArray := method_26_code
def yL_hasBid : MethodName := ⟨RL, "hasBid", "(LWindFarmDispatcher;I[J)I"⟩
abbrev cL_bidPrice : ByteArray := method_27_code
def yL_bidPrice : MethodName := ⟨RL, "bidPrice", "(LWindFarmDispatcher;I[J)I"⟩
abbrev cL_bidQuantity : ByteArray := method_28_code
def yL_bidQuantity : MethodName := ⟨RL, "bidQuantity", "(LWindFarmDispatcher;I[J)I"⟩
abbrev cL_bidByPrice : ByteArray := method_29_code
def yL_bidByPrice : MethodName := ⟨RL, "bidByPrice", "(LWindFarmDispatcher;I[J)I"⟩
abbrev cL_passHours : ByteArray := method_30_code
def yL_passHours : MethodName := ⟨RL, "passHours", "(LWindFarmDispatcher;I[J)I"⟩
abbrev cL_incomeWithin : ByteArray := method_31_code
def yL_incomeWithin : MethodName := ⟨RL, "incomeWithin", "(LWindFarmDispatcher;I[J)I"⟩
abbrev cL_hoursToBid : ByteArray := method_32_code
def yL_hoursToBid : MethodName := ⟨RL, "hoursToBid", "(LWindFarmDispatcher;[J)I"⟩
abbrev cL_turbineByOutput : ByteArray := method_33_code
def yL_turbineByOutput : MethodName := ⟨RL, "turbineByOutput", "(LWindFarmDispatcher;I[J)I"⟩
abbrev cL_meanOutput : ByteArray := method_34_code
def yL_meanOutput : MethodName := ⟨RL, "meanOutput", "(LWindFarmDispatcher;[D)I"⟩
abbrev cL_runningShare : ByteArray := method_35_code
def yL_runningShare : MethodName := ⟨RL, "runningShare", "(LWindFarmDispatcher;[D)I"⟩
abbrev cL_writeTurbine : ByteArray := method_36_code
def yL_writeTurbine : MethodName := ⟨RL, "writeTurbine", "(LWindFarmDispatcher;I[J)I"⟩
abbrev cL_outputAt : ByteArray := method_37_code
def yL_outputAt : MethodName := ⟨RL, "outputAt", "(LWindFarmDispatcher;I[J)I"⟩
abbrev cL_appendInput : ByteArray := method_38_code
def yL_appendInput : MethodName := ⟨RL, "appendInput", "(LWindFarmDispatcher;C[J)I"⟩
abbrev cL_execute : ByteArray := method_39_code
def yL_execute : MethodName := ⟨RL, "execute", "(LWindFarmDispatcher;[J)I"⟩
abbrev cL_syntaxErrorOffset : ByteArray := method_40_code
def yL_syntaxErrorOffset : MethodName := ⟨RL, "syntaxErrorOffset", "(LWindFarmDispatcher;[J)I"⟩
abbrev cL_rejectionReason : ByteArray := method_41_code
def yL_rejectionReason : MethodName := ⟨RL, "rejectionReason", "(LWindFarmDispatcher;[J)I"⟩
abbrev cL_rejectionDetail : ByteArray := method_42_code
def yL_rejectionDetail : MethodName := ⟨RL, "rejectionDetail", "(LWindFarmDispatcher;[J)I"⟩
abbrev cL_causeReason : ByteArray := method_43_code
def yL_causeReason : MethodName := ⟨RL, "causeReason", "(LWindFarmDispatcher;[J)I"⟩
abbrev cL_undo : ByteArray := method_44_code
def yL_undo : MethodName := ⟨RL, "undo", "(LWindFarmDispatcher;[J)I"⟩
abbrev cL_restoreSnapshot : ByteArray := method_45_code
def yL_restoreSnapshot : MethodName := ⟨RL, "restoreSnapshot", "(LWindFarmDispatcher;[J)I"⟩
abbrev cL_law : ByteArray := code
def yL_law : MethodName := ⟨RL, "law", "([I)Z"⟩
end
section
/-! THE FRAME OF ALL WALKS: one world, the whole of it, by place; a judgement AW over it; a method's contract RetK with the rest of the run as its post. -/
/-- the words that every method may rest on -/
def gw : List Cond := lw_tbl.filter goodWord
theorem gw_in {w : Cond} (h : w ∈ lw_tbl) (hg : goodWord w = true) : w ∈ gw := List.mem_filter.mpr ⟨h, hg⟩
theorem tb_0 {w : Cond} (i : Nat) (h : (k2_sels lw_privs)[i]? = some w) : w ∈ lw_tbl := List.mem_append_left _ (List.mem_of_getElem? h)
theorem tb_1 {w : Cond} (i : Nat) (h : tables_1_1[i]? = some w) : w ∈ lw_tbl := List.mem_append_right _ (List.mem_append_left _ (List.mem_of_getElem? h))
theorem tb_2 {w : Cond} (i : Nat) (h : tables_1_2[i]? = some w) : w ∈ lw_tbl := List.mem_append_right _ (List.mem_append_right _ (List.mem_append_left _ (List.mem_of_getElem? h)))
theorem tb_3 {w : Cond} (i : Nat) (h : tables_1_3[i]? = some w) : w ∈ lw_tbl := List.mem_append_right _ (List.mem_append_right _ (List.mem_append_right _ (List.mem_append_left _ (List.mem_of_getElem? h))))
theorem tb_4 {w : Cond} (i : Nat) (h : tables_1_4[i]? = some w) : w ∈ lw_tbl := List.mem_append_right _ (List.mem_append_right _ (List.mem_append_right _ (List.mem_append_right _ (List.mem_append_left _ (List.mem_of_getElem? h)))))
theorem tb_5 {w : Cond} (i : Nat) (h : tables_1_5[i]? = some w) : w ∈ lw_tbl := List.mem_append_right _ (List.mem_append_right _ (List.mem_append_right _ (List.mem_append_right _ (List.mem_append_right _ (List.mem_append_left _ (List.mem_of_getElem? h))))))
theorem tb_6 {w : Cond} (i : Nat) (h : tables_1_6[i]? = some w) : w ∈ lw_tbl := List.mem_append_right _ (List.mem_append_right _ (List.mem_append_right _ (List.mem_append_right _ (List.mem_append_right _ (List.mem_append_right _ (List.mem_append_left _ (List.mem_of_getElem? h)))))))
theorem tb_7 {w : Cond} (i : Nat) (h : tables_1_7[i]? = some w) : w ∈ lw_tbl := List.mem_append_right _ (List.mem_append_right _ (List.mem_append_right _ (List.mem_append_right _ (List.mem_append_right _ (List.mem_append_right _ (List.mem_append_right _ (List.mem_append_left _ (List.mem_of_getElem? h))))))))
theorem tb_8 {w : Cond} (i : Nat) (h : tables_1_8[i]? = some w) : w ∈ lw_tbl := List.mem_append_right _ (List.mem_append_right _ (List.mem_append_right _ (List.mem_append_right _ (List.mem_append_right _ (List.mem_append_right _ (List.mem_append_right _ (List.mem_append_right _ (List.mem_of_getElem? h))))))))
/-- words that go along by premises of their own: a nest mate's link, a declaration, a cast -/
def nwk : Cond → Bool
  | .methodLinkNest _ _ _ _ => true
  | .declares _ => true
  | .castable _ _ => true
  | _ => false
def nw : List Cond := lw_tbl.filter nwk
theorem nw_in {w : Cond} (h : w ∈ lw_tbl) (hg : nwk w = true) : w ∈ nw := List.mem_filter.mpr ⟨h, hg⟩
theorem nw_warm {s U : State} (hW : s.WarmedH U.vm) (h : ∀ w ∈ nw, va_Nw w s) : ∀ w ∈ nw, va_Nw w U := by
  intro w hw
  have h1 := h w hw
  have h2 := (List.mem_filter.mp hw).2
  cases w with
  | methodLinkNest a b c d => exact va_Nw.warmM hW h1
  | declares a => exact va_Nw.warmD hW h1
  | castable a b => exact va_Nw.warmC hW h1
  | _ => cases h2
theorem nw_same {s U : State} (hv : U.vm = s.vm) (h : ∀ w ∈ nw, va_Nw w s) : ∀ w ∈ nw, va_Nw w U := by
  intro w hw
  have h1 := h w hw
  have h2 := (List.mem_filter.mp hw).2
  cases w with
  | methodLinkNest a b c d => exact va_Nw.same rfl hv.symm h1
  | declares a => exact va_Nw.same rfl hv.symm h1
  | castable a b => exact va_Nw.same rfl hv.symm h1
  | _ => cases h2
/-- the classes of the world's objects, by their numbers -/
def cls : List vw_C := [(RX0, TX0, 5), (RX1, TX1, 19), (RX2, TX2, 3), (RX3, TX3, 2), (RX4, TX4, 11), (RX5, TX5, 17)]
/-- what is fixed for a run: class ids and slots; the world's first address; the arrays' classes; the String constants' addresses, and their rows'; the address of each place of the world -/
abbrev GX : Type := va_G × Nat × (ClassId × ClassId × ClassId × ClassId × ClassId) × (Nat → Nat) × (Nat → Nat) × (Nat → Nat)
def gD (G : GX) : va_G := G.1
def gB (G : GX) : Nat := G.2.1
def gI (G : GX) : ClassId := G.2.2.1.1
def gC (G : GX) : ClassId := G.2.2.1.2.1
def gJ (G : GX) : ClassId := G.2.2.1.2.2.1
def gE (G : GX) : ClassId := G.2.2.1.2.2.2.1
def gF (G : GX) : ClassId := G.2.2.1.2.2.2.2
def gK (G : GX) : Nat → Nat := G.2.2.2.1
def gV (G : GX) : Nat → Nat := G.2.2.2.2.1
def tys (G : GX) : List (ClassId × FieldType) := [(gI G, .int), (gC G, .char), (gJ G, .long), (gE G, .double), (gF G, .object "WindFarmDispatcher$Farm")]
/-- the address of the world's place k -/
def ad (G : GX) (k : Nat) : Nat := G.2.2.2.2.2 k
/-- one place more -/
def gN (G : GX) (N q : Nat) : GX := (G.1, G.2.1, G.2.2.1, G.2.2.2.1, G.2.2.2.2.1, fun k => if k = N then q else G.2.2.2.2.2 k)
/-- the cells that a run may write: its world's, and what is new -/
def AA (G : GX) : Nat → Prop := fun q => gB G ≤ q
/-- the world of N places as the kit's list -/
def wl (G : GX) (N : Nat) (S : Nat → va_E) : va_W := (List.range N).map (fun k => (ad G k, S k))
theorem wl_get {G : GX} {N : Nat} {S : Nat → va_E} {k : Nat} (h : k < N) : (wl G N S)[k]? = some (ad G k, S k) := by
  simp [wl, h]
theorem wl_of {G : GX} {N : Nat} {S : Nat → va_E} {k : Nat} {q : Nat × va_E} (h : (wl G N S)[k]? = some q) : k < N ∧ q = (ad G k, S k) := by
  by_cases hk : k < N
  · rw [wl_get hk] at h
    exact ⟨hk, (Option.some.inj h).symm⟩
  · simp [wl, hk] at h
theorem wl_set {G : GX} {N : Nat} {S : Nat → va_E} {k : Nat} {e : va_E} : (wl G N S).set k (ad G k, e) = wl G N (va_up S k e) := by
  apply List.ext_getElem?
  intro j
  by_cases hj : j < N
  · rw [wl_get hj, List.getElem?_set]
    by_cases hk : k = j
    · subst hk
      simp [wl, hj, va_up]
    · rw [if_neg hk, wl_get hj]
      simp [va_up, Ne.symm hk]
  · rw [List.getElem?_eq_none (by simp [wl]; omega), List.getElem?_eq_none (by simp [wl]; omega)]
theorem wl_push {G : GX} {N : Nat} {S : Nat → va_E} {e : va_E} {q : Nat} : wl G N S ++ [(q, e)] = wl (gN G N q) (N + 1) (va_up S N e) := by
  unfold wl
  rw [List.range_succ, List.map_append]
  congr 1
  · apply List.map_congr_left
    intro k hk
    rw [List.mem_range] at hk
    simp [va_up, Nat.ne_of_lt hk, ad, gN]
  · simp [va_up, ad, gN]
/-- the places' addresses are apart, and the world's own -/
def DD (G : GX) (N : Nat) : Prop := (∀ i j : Nat, i < N → j < N → ad G i = ad G j → i = j) ∧ ∀ k : Nat, k < N → gB G ≤ ad G k
theorem DD.D {G : GX} {N : Nat} (h : DD G N) {S : Nat → va_E} : va_D (AA G) (wl G N S) := by
  refine ⟨fun i j p q hi hj e => ?_, fun k q hk => ?_⟩
  · obtain ⟨h1, rfl⟩ := wl_of hi
    obtain ⟨h2, rfl⟩ := wl_of hj
    exact h.1 i j h1 h2 e
  · obtain ⟨h1, rfl⟩ := wl_of hk
    exact h.2 k h1
theorem DD.of {G : GX} {N : Nat} {S : Nat → va_E} (h : va_D (AA G) (wl G N S)) : DD G N :=
  ⟨fun i j hi hj e => h.1 i j _ _ (wl_get hi) (wl_get hj) e, fun k hk => h.2 k _ (wl_get hk)⟩
/-- the claim's String constants -/
def strs : List (String × Nat × String) := [("WindFarmDispatcher", 172, "NESW"), ("WindFarmDispatcher$CommandReader", 70, "111"), ("WindFarmDispatcher$CommandReader", 72, "n"), ("WindFarmDispatcher$CommandReader", 74, "n:n"), ("WindFarmDispatcher$CommandReader", 76, "wn"), ("WindFarmDispatcher$CommandReader", 78, "n:n*n"), ("WindFarmDispatcher$CommandReader", 80, ""), ("WindFarmDispatcher", 366, "no such turbine, cell or hour"), ("WindFarmDispatcher", 368, "a number or a direction is out of range"), ("WindFarmDispatcher", 379, "the call is rejected"), ("WindFarmDispatcher", 81, "no such cell"), ("WindFarmDispatcher", 91, "the cell is empty"), ("WindFarmDispatcher", 389, "no such turbine"), ("WindFarmDispatcher", 119, "the turbine is not curtailed"), ("WindFarmDispatcher", 124, "the turbine is not in service"), ("WindFarmDispatcher", 169, "no such wind"), ("WindFarmDispatcher", 394, "no such hour of the day"), ("WindFarmDispatcher", 396, "there is no bid for this hour"), ("WindFarmDispatcher", 219, "no bid at this position"), ("WindFarmDispatcher", 231, "hours are out of range"), ("WindFarmDispatcher", 241, "there are no bids"), ("WindFarmDispatcher", 258, "no turbine at this position"), ("WindFarmDispatcher", 262, "there are no turbines"), ("WindFarmDispatcher", 283, "no character at this index"), ("WindFarmDispatcher", 288, "the character is out of range"), ("WindFarmDispatcher", 295, "the input is full"), ("WindFarmDispatcher", 304, "the input has a syntax error"), ("WindFarmDispatcher", 382, "a command has something that its method does not accept"), ("WindFarmDispatcher", 384, "a command is rejected"), ("WindFarmDispatcher", 333, "there was no syntax error"), ("WindFarmDispatcher", 398, "no call was rejected"), ("WindFarmDispatcher", 344, "no command was rejected"), ("WindFarmDispatcher", 352, "there is no change to undo"), ("WindFarmDispatcher", 361, "there is no snapshot")]
/-- the bytes of the constants whose characters are read -/
def bytS : List (List Int32) := [[78, 69, 83, 87], [49, 49, 49], [110], [110, 58, 110], [119, 110], [110, 58, 110, 42, 110], []]
def lenS : List Nat := [4, 3, 1, 3, 2, 5, 0]
/-- the statics and constants of the start -/
def SF (G : GX) (U : State) (H : Heap) : Prop :=
  vx_Zq Bundle.tN "UNASSIGNED_STACK" Bundle.steD (AA G) U H ∧ vx_Zq Bundle.tN "SUPPRESSED_SENTINEL" Bundle.listD (AA G) U H ∧
  (∀ (i : Nat) (q : String × Nat × String), strs[i]? = some q → vk_R q.1 q.2.1 q.2.2 (gK G i) U) ∧
  vk_S 7 lenS bytS (gK G) (gV G) (AA G) U H ∧ va_Z "java/lang/String" "COMPACT_STRINGS" "Z" (.int 1) (AA G) U H ∧ va_Zq "jdk/internal/util/Preconditions" "SIOOBE_FORMATTER" "Ljava/util/function/BiFunction;" (AA G) U H ∧ ∀ w ∈ nw, va_Nw w U
theorem SF.warm {G : GX} {s U : State} {H : Heap} (hW : s.WarmedH U.vm) (h : SF G s H) : SF G U H :=
  ⟨h.1.moved hW.alike, h.2.1.moved hW.alike, fun i q hq => (h.2.2.1 i q hq).warm hW, h.2.2.2.1.moved hW.alike, h.2.2.2.2.1.moved hW.alike, h.2.2.2.2.2.1.moved hW.alike, nw_warm hW h.2.2.2.2.2.2⟩
theorem SF.kept {G : GX} {U : State} {H H1 : Heap} (h : SF G U H) (hq : ∀ a : Nat, a < H.size → ¬ AA G a → H1[a]? = H[a]?) : SF G U H1 :=
  ⟨h.1.kept hq, h.2.1.kept hq, h.2.2.1, h.2.2.2.1.kept hq, h.2.2.2.2.1.kept hq, h.2.2.2.2.2.1.kept hq, h.2.2.2.2.2.2⟩
theorem SF.same {G : GX} {s U : State} {H : Heap} (hv : U.vm = s.vm) (h : SF G s H) : SF G U H := by
  have ha : s.vm.Alike U.vm := by rw [hv]; exact Vm.Alike.refl _
  exact ⟨h.1.moved ha, h.2.1.moved ha, fun i q hq => (h.2.2.1 i q hq).same hv, h.2.2.2.1.moved ha, h.2.2.2.2.1.moved ha, h.2.2.2.2.2.1.moved ha, nw_same hv h.2.2.2.2.2.2⟩
/-- the world as a state's -/
def WD (G : GX) (N : Nat) (S : Nat → va_E) (U : State) : Prop :=
  va_P (gD G) cls (wl G N S) U.heap ∧ va_K (gD G) cls (tys G) U ∧ gB G ≤ U.heap.size ∧ SF G U U.heap
/-- a frame's context: program, launch, environment, room, start, method, arguments, frames below, the method's facts, its code, the end -/
abbrev CX : Type := Program × Launch × Env × Room × State × MethodId × Array Value × List Frame × Method × Code × (State → Prop)
def xs (X : CX) : State := X.2.2.2.2.1
def xc (X : CX) : Code := X.2.2.2.2.2.2.2.2.2.1
def xW (X : CX) (H : Heap) (locs : List Loc) (a b : Nat) (g : JFrame) : Prop :=
  W X.1 X.2.1 X.2.2.1 X.2.2.2.1 X.2.2.2.2.1 X.2.2.2.2.2.1 X.2.2.2.2.2.2.1 X.2.2.2.2.2.2.2.1 X.2.2.2.2.2.2.2.2.1 X.2.2.2.2.2.2.2.2.2.1 H locs a b X.2.2.2.2.2.2.2.2.2.2 g
/-- at pc, with these locals, this stack, this world, so many cells and slots made: the machine comes to the end -/
def AW (X : CX) (G : GX) (nL N : Nat) (pc : Nat) (lo : List (Nat × Value)) (st : List Value) (S : Nat → va_E) (a b : Nat) : Prop :=
  ∀ (H : Heap) (locs : List Loc) (ls : Array Slot), va_P (gD G) cls (wl G N S) H → va_S (AA G) X.2.2.2.2.1.heap H locs → lv_has ls nL lo → xW X H locs a b (F0 X.2.2.2.2.2.1 pc ls st)
/-- what holds of a frame's context: rm = frames, locals, cells, slots that its room has at least -/
def OK (X : CX) (G : GX) (N : Nat) (cc : ByteArray) (own : String) (nL : Nat) (rm : Nat × Nat × Nat × Nat) : Prop :=
  X.1.tables.exec = Jvm.exec ∧ X.2.2.2.2.2.2.2.2.2.1.code = cc ∧ X.2.2.2.2.2.2.2.2.2.1.maxLocals = nL ∧ X.2.2.2.2.1.vm.findClass own = some X.2.2.2.2.2.1.cls ∧
  (∀ w ∈ gw, w.before X.2.2.2.2.2.2.1 X.2.2.2.2.1 = true) ∧ va_K (gD G) cls (tys G) X.2.2.2.2.1 ∧ gB G ≤ X.2.2.2.2.1.heap.size ∧ X.2.2.2.2.2.2.2.2.1.locks = false ∧ X.2.1.stackTraces = false ∧ SF G X.2.2.2.2.1 X.2.2.2.2.1.heap ∧ DD G N ∧
  rm.1 ≤ X.2.2.2.1.frames ∧ rm.2.1 ≤ X.2.2.2.1.locals ∧ rm.2.2.1 ≤ X.2.2.2.1.cells ∧ rm.2.2.2 ≤ X.2.2.2.1.slots
end
section
/-! THE ROWS OF AW, one an instruction: the locals by their numbers, the world by its places. -/
/-- a value of two slots -/
def catb : Value → Bool
  | .long _ => true
  | .double _ => true
  | _ => false
theorem catb_eq (v : Value) : (v.category == 2) = catb v := by cases v <;> rfl
def lget (i : Nat) : List (Nat × Value) → Option Value
  | [] => none
  | (j, w) :: t => match Nat.beq j i with
    | true => some w
    | false => lget i t
def lset (i : Nat) (v : Value) : Bool → List (Nat × Value) → Option (List (Nat × Value))
  | f, [] => match f with
    | true => some []
    | false => some [(i, v)]
  | f, (j, w) :: t => match Nat.beq j i with
    | true => match lset i v true t with
      | some t' => some ((i, v) :: t')
      | none => none
    | false => match Nat.beq (j + 1) i && catb w with
      | true => none
      | false => match lset i v f t with
        | some t' => some ((j, w) :: t')
        | none => none
theorem lget_at {ls : Array Slot} {nL : Nat} {i : Nat} {v : Value} : ∀ {lo : List (Nat × Value)}, lv_has ls nL lo → lget i lo = some v → ls[i]? = some (.val v)
  | [], _, h => by simp [lget] at h
  | (j, w) :: t, hl, h => by
    unfold lget at h
    cases hb : Nat.beq j i with
    | true =>
      rw [hb] at h
      cases h
      rw [← Nat.eq_of_beq_eq_true hb]
      exact hl.2.2 (j, v) List.mem_cons_self
    | false =>
      rw [hb] at h
      exact lget_at ⟨hl.1, hl.2.1, fun q hq => hl.2.2 q (List.mem_cons_of_mem _ hq)⟩ h
theorem nbeq (x y : Nat) : (x == y) = Nat.beq x y := by
  cases h : Nat.beq x y with
  | true => rw [Nat.eq_of_beq_eq_true h]; exact beq_self_eq_true y
  | false => exact beq_false_of_ne (Nat.ne_of_beq_eq_false h)
theorem lset_mem {i : Nat} {v : Value} : ∀ {f : Bool} {lo lo' : List (Nat × Value)}, lset i v f lo = some lo' → ∀ q ∈ lo', q = (i, v) ∨ (q ∈ lo ∧ (!(q.1 == i) && !(q.1 + 1 == i && q.2.category == 2)) = true)
  | true, [], lo', h, q, hq => by simp [lset] at h; subst h; cases hq
  | false, [], lo', h, q, hq => by simp [lset] at h; subst h; exact Or.inl (by simpa using hq)
  | f, (j, w) :: t, lo', h, q, hq => by
    unfold lset at h
    cases hb : Nat.beq j i with
    | true =>
      rw [hb] at h
      dsimp only at h
      cases hr : lset i v true t with
      | none => rw [hr] at h; cases h
      | some t' =>
        rw [hr] at h
        cases h
        rcases List.mem_cons.mp hq with rfl | hq
        · exact Or.inl rfl
        · rcases lset_mem hr q hq with h1 | ⟨h1, h2⟩
          · exact Or.inl h1
          · exact Or.inr ⟨List.mem_cons_of_mem _ h1, h2⟩
    | false =>
      rw [hb] at h
      dsimp only at h
      cases hc : Nat.beq (j + 1) i && catb w with
      | true => rw [hc] at h; cases h
      | false =>
        rw [hc] at h
        dsimp only at h
        cases hr : lset i v f t with
        | none => rw [hr] at h; cases h
        | some t' =>
          rw [hr] at h
          cases h
          rcases List.mem_cons.mp hq with rfl | hq
          · refine Or.inr ⟨List.mem_cons_self, ?_⟩
            have e1 : (j == i) = false := (nbeq j i).trans hb
            have e2 : (j + 1 == i && w.category == 2) = false := by rw [catb_eq, nbeq]; exact hc
            simp only [e1, e2]
            rfl
          · rcases lset_mem hr q hq with h1 | ⟨h1, h2⟩
            · exact Or.inl h1
            · exact Or.inr ⟨List.mem_cons_of_mem _ h1, h2⟩
theorem lset_has {ls : Array Slot} {nL i : Nat} {v : Value} {lo lo' : List (Nat × Value)} (h : lset i v false lo = some lo') (hl : lv_has ls nL ((i, v) :: lo.filter (fun q => !(q.1 == i) && !(q.1 + 1 == i && q.2.category == 2)))) : lv_has ls nL lo' :=
  ⟨hl.1, hl.2.1, fun q hq => hl.2.2 q (by
    rcases lset_mem h q hq with h1 | ⟨h1, h2⟩
    · rw [h1]; exact List.mem_cons_self
    · exact List.mem_cons_of_mem _ (List.mem_filter.mpr ⟨h1, h2⟩))⟩
/-- the listed values that a two-slot store at i leaves -/
def lset2 (i : Nat) (v : Value) (lo : List (Nat × Value)) : List (Nat × Value) := (i, v) :: lo.filter (fun q => !(q.1 == i) && (!(q.1 == i + 1) && !(q.1 + 1 == i && q.2.category == 2)))
section RULES
variable {X : CX} {G : GX} {cc : ByteArray} {own : String} {nL N pc pc' tgt : Nat} {lo lo' : List (Nat × Value)} {st : List Value} {S : Nat → va_E} {a b : Nat} {rm : Nat × Nat × Nat × Nat}
theorem r_iload_n (h : OK X G N cc own nL rm) {i : Fin 4} {x : Int32} (hd : decode cc pc = .ok (.iload_n i, 1)) (hp : pc + 1 = pc') (hj : lget (i : Nat) lo = some (.int x)) (kk : AW X G nL N pc' lo (.int x :: st) S a b) : AW X G nL N pc lo st S a b := by
  subst hp
  intro H locs ls hP hS hl
  exact lv_iload_n h.1 h.2.1 hd rfl (lget_at hl hj) (kk H locs ls hP hS hl)
theorem r_iload (h : OK X G N cc own nL rm) {i : Nat} {x : Int32} (hd : decode cc pc = .ok (.iload i, 2)) (hp : pc + 2 = pc') (hj : lget i lo = some (.int x)) (kk : AW X G nL N pc' lo (.int x :: st) S a b) : AW X G nL N pc lo st S a b := by
  subst hp
  intro H locs ls hP hS hl
  exact lv_iload h.1 h.2.1 hd (lget_at hl hj) (kk H locs ls hP hS hl)
theorem r_aload_n (h : OK X G N cc own nL rm) {i : Fin 4} {x : Nat} (hd : decode cc pc = .ok (.aload_n i, 1)) (hp : pc + 1 = pc') (hj : lget (i : Nat) lo = some (.ref x)) (kk : AW X G nL N pc' lo (.ref x :: st) S a b) : AW X G nL N pc lo st S a b := by
  subst hp
  intro H locs ls hP hS hl
  exact lv_aload_n h.1 h.2.1 hd rfl (lget_at hl hj) (kk H locs ls hP hS hl)
theorem r_aload (h : OK X G N cc own nL rm) {i : Nat} {x : Nat} (hd : decode cc pc = .ok (.aload i, 2)) (hp : pc + 2 = pc') (hj : lget i lo = some (.ref x)) (kk : AW X G nL N pc' lo (.ref x :: st) S a b) : AW X G nL N pc lo st S a b := by
  subst hp
  intro H locs ls hP hS hl
  exact lv_aload h.1 h.2.1 hd (lget_at hl hj) (kk H locs ls hP hS hl)
theorem r_lload_n (h : OK X G N cc own nL rm) {i : Fin 4} {x : Int64} (hd : decode cc pc = .ok (.lload_n i, 1)) (hp : pc + 1 = pc') (hj : lget (i : Nat) lo = some (.long x)) (kk : AW X G nL N pc' lo (.long x :: st) S a b) : AW X G nL N pc lo st S a b := by
  subst hp
  intro H locs ls hP hS hl
  exact lv_lload_n h.1 h.2.1 hd rfl (lget_at hl hj) (kk H locs ls hP hS hl)
theorem r_lload (h : OK X G N cc own nL rm) {i : Nat} {x : Int64} (hd : decode cc pc = .ok (.lload i, 2)) (hp : pc + 2 = pc') (hj : lget i lo = some (.long x)) (kk : AW X G nL N pc' lo (.long x :: st) S a b) : AW X G nL N pc lo st S a b := by
  subst hp
  intro H locs ls hP hS hl
  exact lv_lload h.1 h.2.1 hd (lget_at hl hj) (kk H locs ls hP hS hl)
theorem r_fload (h : OK X G N cc own nL rm) {i : Nat} {x : UInt32} (hd : decode cc pc = .ok (.fload i, 2)) (hp : pc + 2 = pc') (hj : lget i lo = some (.float x)) (kk : AW X G nL N pc' lo (.float x :: st) S a b) : AW X G nL N pc lo st S a b := by
  subst hp
  intro H locs ls hP hS hl
  exact lv_fload h.1 h.2.1 hd (lget_at hl hj) (kk H locs ls hP hS hl)
theorem r_dload (h : OK X G N cc own nL rm) {i : Nat} {x : UInt64} (hd : decode cc pc = .ok (.dload i, 2)) (hp : pc + 2 = pc') (hj : lget i lo = some (.double x)) (kk : AW X G nL N pc' lo (.double x :: st) S a b) : AW X G nL N pc lo st S a b := by
  subst hp
  intro H locs ls hP hS hl
  exact lv_dload h.1 h.2.1 hd (lget_at hl hj) (kk H locs ls hP hS hl)
theorem r_istore_n (h : OK X G N cc own nL rm) {i : Fin 4} {x : Int32} (hd : decode cc pc = .ok (.istore_n i, 1)) (hp : pc + 1 = pc') (hn : (i : Nat) < nL) (hj : lset (i : Nat) (.int x) false lo = some lo') (kk : AW X G nL N pc' lo' st S a b) : AW X G nL N pc lo (.int x :: st) S a b := by
  subst hp
  intro H locs ls hP hS hl
  exact lv_istore_n h.1 h.2.1 hd rfl hl hn rfl (fun ls' hl' => kk H locs ls' hP hS (lset_has hj hl'))
theorem r_istore (h : OK X G N cc own nL rm) {i : Nat} {x : Int32} (hd : decode cc pc = .ok (.istore i, 2)) (hp : pc + 2 = pc') (hn : i < nL) (hj : lset i (.int x) false lo = some lo') (kk : AW X G nL N pc' lo' st S a b) : AW X G nL N pc lo (.int x :: st) S a b := by
  subst hp
  intro H locs ls hP hS hl
  exact lv_istore h.1 h.2.1 hd hl hn rfl (fun ls' hl' => kk H locs ls' hP hS (lset_has hj hl'))
theorem r_astore_n (h : OK X G N cc own nL rm) {i : Fin 4} {x : Nat} (hd : decode cc pc = .ok (.astore_n i, 1)) (hp : pc + 1 = pc') (hn : (i : Nat) < nL) (hj : lset (i : Nat) (.ref x) false lo = some lo') (kk : AW X G nL N pc' lo' st S a b) : AW X G nL N pc lo (.ref x :: st) S a b := by
  subst hp
  intro H locs ls hP hS hl
  exact lv_astore_n h.1 h.2.1 hd rfl hl hn rfl (fun ls' hl' => kk H locs ls' hP hS (lset_has hj hl'))
theorem r_astore (h : OK X G N cc own nL rm) {i : Nat} {x : Nat} (hd : decode cc pc = .ok (.astore i, 2)) (hp : pc + 2 = pc') (hn : i < nL) (hj : lset i (.ref x) false lo = some lo') (kk : AW X G nL N pc' lo' st S a b) : AW X G nL N pc lo (.ref x :: st) S a b := by
  subst hp
  intro H locs ls hP hS hl
  exact lv_astore h.1 h.2.1 hd hl hn rfl (fun ls' hl' => kk H locs ls' hP hS (lset_has hj hl'))
theorem r_fstore (h : OK X G N cc own nL rm) {i : Nat} {x : UInt32} (hd : decode cc pc = .ok (.fstore i, 2)) (hp : pc + 2 = pc') (hn : i < nL) (hj : lset i (.float x) false lo = some lo') (kk : AW X G nL N pc' lo' st S a b) : AW X G nL N pc lo (.float x :: st) S a b := by
  subst hp
  intro H locs ls hP hS hl
  exact lv_fstore h.1 h.2.1 hd hl hn rfl (fun ls' hl' => kk H locs ls' hP hS (lset_has hj hl'))
theorem r_dstore (h : OK X G N cc own nL rm) {i : Nat} {x : UInt64} (hd : decode cc pc = .ok (.dstore i, 2)) (hp : pc + 2 = pc') (hn : i + 1 < nL) (hj : lset2 i (.double x) lo = lo') (kk : AW X G nL N pc' lo' st S a b) : AW X G nL N pc lo (.double x :: st) S a b := by
  subst hp
  intro H locs ls hP hS hl
  exact lv_dstore h.1 h.2.1 hd hl hn hj (fun ls' hl' => kk H locs ls' hP hS hl')
theorem r_lstore_n (h : OK X G N cc own nL rm) {i : Fin 4} {x : Int64} (hd : decode cc pc = .ok (.lstore_n i, 1)) (hp : pc + 1 = pc') (hn : (i : Nat) + 1 < nL) (hj : lset2 (i : Nat) (.long x) lo = lo') (kk : AW X G nL N pc' lo' st S a b) : AW X G nL N pc lo (.long x :: st) S a b := by
  subst hp
  intro H locs ls hP hS hl
  exact lv_lstore_n h.1 h.2.1 hd rfl hl hn hj (fun ls' hl' => kk H locs ls' hP hS hl')
theorem lget_key {i : Nat} {v : Value} : ∀ {lo : List (Nat × Value)}, lget i lo = some v → ∃ k : Nat, lo[k]? = some (i, v)
  | [], h => by simp [lget] at h
  | (j, w) :: t, h => by
    unfold lget at h
    cases hb : Nat.beq j i with
    | true =>
      rw [hb] at h
      cases h
      exact ⟨0, by rw [← Nat.eq_of_beq_eq_true hb]; rfl⟩
    | false =>
      rw [hb] at h
      obtain ⟨k, hk⟩ := lget_key h
      exact ⟨k + 1, by simpa using hk⟩
theorem r_iinc (h : OK X G N cc own nL rm) {i : Nat} {n : Int} {x v : Int32} (hd : decode cc pc = .ok (.iinc i n, 3)) (hp : pc + 3 = pc') (hv : Int32.ofInt n = v) (hn : i < nL) (hg : lget i lo = some (.int x)) (hj : lset i (.int (x + v)) false lo = some lo') (kk : AW X G nL N pc' lo' st S a b) : AW X G nL N pc lo st S a b := by
  subst hp
  subst hv
  intro H locs ls hP hS hl
  obtain ⟨k, hk⟩ := lget_key hg
  exact lv_iinc h.1 h.2.1 hd hl hk rfl hn rfl (fun ls' hl' => kk H locs ls' hP hS (lset_has hj hl'))
theorem r_iconst (h : OK X G N cc own nL rm) {n : Int} {v : Int32} (hd : decode cc pc = .ok (.iconst n, 1)) (hp : pc + 1 = pc') (hv : Int32.ofInt n = v) (kk : AW X G nL N pc' lo (.int v :: st) S a b) : AW X G nL N pc lo st S a b := by
  subst hp
  intro H locs ls hP hS hl
  exact lv_iconst h.1 h.2.1 hd hv (kk H locs ls hP hS hl)
theorem r_bipush (h : OK X G N cc own nL rm) {n : Int} {v : Int32} (hd : decode cc pc = .ok (.bipush n, 2)) (hp : pc + 2 = pc') (hv : (Int8.ofInt n).toInt32 = v) (kk : AW X G nL N pc' lo (.int v :: st) S a b) : AW X G nL N pc lo st S a b := by
  subst hp
  intro H locs ls hP hS hl
  exact lv_bipush h.1 h.2.1 hd hv (kk H locs ls hP hS hl)
theorem r_sipush (h : OK X G N cc own nL rm) {n : Int} {v : Int32} (hd : decode cc pc = .ok (.sipush n, 3)) (hp : pc + 3 = pc') (hv : (Int16.ofInt n).toInt32 = v) (kk : AW X G nL N pc' lo (.int v :: st) S a b) : AW X G nL N pc lo st S a b := by
  subst hp
  intro H locs ls hP hS hl
  exact lv_sipush h.1 h.2.1 hd hv (kk H locs ls hP hS hl)
theorem r_lconst (h : OK X G N cc own nL rm) {n : Fin 2} {v : Int64} (hd : decode cc pc = .ok (.lconst n, 1)) (hp : pc + 1 = pc') (hv : Int64.ofNat (n : Nat) = v) (kk : AW X G nL N pc' lo (.long v :: st) S a b) : AW X G nL N pc lo st S a b := by
  subst hp
  intro H locs ls hP hS hl
  exact lv_lconst h.1 h.2.1 hd hv (kk H locs ls hP hS hl)
theorem r_null (h : OK X G N cc own nL rm)  (hd : decode cc pc = .ok (.aconst_null, 1)) (hp : pc + 1 = pc') (kk : AW X G nL N pc' lo (.null :: st) S a b) : AW X G nL N pc lo st S a b := by
  subst hp
  intro H locs ls hP hS hl
  exact lv_null h.1 h.2.1 hd (kk H locs ls hP hS hl)
theorem r_dup (h : OK X G N cc own nL rm) {v : Value} (hd : decode cc pc = .ok (.dup, 1)) (hp : pc + 1 = pc') (hv : v.category = 1) (kk : AW X G nL N pc' lo (v :: v :: st) S a b) : AW X G nL N pc lo (v :: st) S a b := by
  subst hp
  intro H locs ls hP hS hl
  exact lv_dup h.1 h.2.1 hd hv (kk H locs ls hP hS hl)
theorem r_pop (h : OK X G N cc own nL rm) {v : Value} (hd : decode cc pc = .ok (.pop, 1)) (hp : pc + 1 = pc') (hv : v.category = 1) (kk : AW X G nL N pc' lo st S a b) : AW X G nL N pc lo (v :: st) S a b := by
  subst hp
  intro H locs ls hP hS hl
  exact lv_pop h.1 h.2.1 hd hv (kk H locs ls hP hS hl)
theorem r_dup2 (h : OK X G N cc own nL rm) {v w : Value} (hd : decode cc pc = .ok (.dup2, 1)) (hp : pc + 1 = pc') (hv : v.category = 1) (hw : w.category = 1) (kk : AW X G nL N pc' lo (v :: w :: v :: w :: st) S a b) : AW X G nL N pc lo (v :: w :: st) S a b := by
  subst hp
  intro H locs ls hP hS hl
  exact lv_dup2_11 h.1 h.2.1 hd hv hw (kk H locs ls hP hS hl)
theorem r_iadd (h : OK X G N cc own nL rm) {x y : Int32} (hd : decode cc pc = .ok (.iadd, 1)) (hp : pc + 1 = pc') (kk : AW X G nL N pc' lo (.int (x + y) :: st) S a b) : AW X G nL N pc lo (.int y :: .int x :: st) S a b := by
  subst hp
  intro H locs ls hP hS hl
  exact lv_iadd h.1 h.2.1 hd (kk H locs ls hP hS hl)
theorem r_isub (h : OK X G N cc own nL rm) {x y : Int32} (hd : decode cc pc = .ok (.isub, 1)) (hp : pc + 1 = pc') (kk : AW X G nL N pc' lo (.int (x - y) :: st) S a b) : AW X G nL N pc lo (.int y :: .int x :: st) S a b := by
  subst hp
  intro H locs ls hP hS hl
  exact lv_isub h.1 h.2.1 hd (kk H locs ls hP hS hl)
theorem r_imul (h : OK X G N cc own nL rm) {x y : Int32} (hd : decode cc pc = .ok (.imul, 1)) (hp : pc + 1 = pc') (kk : AW X G nL N pc' lo (.int (x * y) :: st) S a b) : AW X G nL N pc lo (.int y :: .int x :: st) S a b := by
  subst hp
  intro H locs ls hP hS hl
  exact lv_imul h.1 h.2.1 hd (kk H locs ls hP hS hl)
theorem r_iand (h : OK X G N cc own nL rm) {x y : Int32} (hd : decode cc pc = .ok (.iand, 1)) (hp : pc + 1 = pc') (kk : AW X G nL N pc' lo (.int (x &&& y) :: st) S a b) : AW X G nL N pc lo (.int y :: .int x :: st) S a b := by
  subst hp
  intro H locs ls hP hS hl
  exact lv_iand h.1 h.2.1 hd (kk H locs ls hP hS hl)
theorem r_idiv (h : OK X G N cc own nL rm) {x y : Int32} (hd : decode cc pc = .ok (.idiv, 1)) (hp : pc + 1 = pc') (hne : ¬ y = 0) (kk : AW X G nL N pc' lo (.int (x / y) :: st) S a b) : AW X G nL N pc lo (.int y :: .int x :: st) S a b := by
  subst hp
  intro H locs ls hP hS hl
  exact lv_idiv h.1 h.2.1 hd hne (kk H locs ls hP hS hl)
theorem r_irem (h : OK X G N cc own nL rm) {x y : Int32} (hd : decode cc pc = .ok (.irem, 1)) (hp : pc + 1 = pc') (hne : ¬ y = 0) (kk : AW X G nL N pc' lo (.int (x - x / y * y) :: st) S a b) : AW X G nL N pc lo (.int y :: .int x :: st) S a b := by
  subst hp
  intro H locs ls hP hS hl
  exact lv_irem h.1 h.2.1 hd hne (kk H locs ls hP hS hl)
theorem r_ineg (h : OK X G N cc own nL rm) {x : Int32} (hd : decode cc pc = .ok (.ineg, 1)) (hp : pc + 1 = pc') (kk : AW X G nL N pc' lo (.int (-x) :: st) S a b) : AW X G nL N pc lo (.int x :: st) S a b := by
  subst hp
  intro H locs ls hP hS hl
  exact lv_ineg h.1 h.2.1 hd (kk H locs ls hP hS hl)
theorem r_ladd (h : OK X G N cc own nL rm) {x y : Int64} (hd : decode cc pc = .ok (.ladd, 1)) (hp : pc + 1 = pc') (kk : AW X G nL N pc' lo (.long (x + y) :: st) S a b) : AW X G nL N pc lo (.long y :: .long x :: st) S a b := by
  subst hp
  intro H locs ls hP hS hl
  exact lv_ladd h.1 h.2.1 hd (kk H locs ls hP hS hl)
theorem r_lsub (h : OK X G N cc own nL rm) {x y : Int64} (hd : decode cc pc = .ok (.lsub, 1)) (hp : pc + 1 = pc') (kk : AW X G nL N pc' lo (.long (x - y) :: st) S a b) : AW X G nL N pc lo (.long y :: .long x :: st) S a b := by
  subst hp
  intro H locs ls hP hS hl
  exact lv_lsub h.1 h.2.1 hd (kk H locs ls hP hS hl)
theorem r_i2l (h : OK X G N cc own nL rm) {x : Int32} (hd : decode cc pc = .ok (.i2l, 1)) (hp : pc + 1 = pc') (kk : AW X G nL N pc' lo (.long x.toInt64 :: st) S a b) : AW X G nL N pc lo (.int x :: st) S a b := by
  subst hp
  intro H locs ls hP hS hl
  exact lv_i2l h.1 h.2.1 hd rfl (kk H locs ls hP hS hl)
theorem r_l2i (h : OK X G N cc own nL rm) {x : Int64} (hd : decode cc pc = .ok (.l2i, 1)) (hp : pc + 1 = pc') (kk : AW X G nL N pc' lo (.int x.toInt32 :: st) S a b) : AW X G nL N pc lo (.long x :: st) S a b := by
  subst hp
  intro H locs ls hP hS hl
  exact lv_l2i h.1 h.2.1 hd rfl (kk H locs ls hP hS hl)
theorem r_i2c (h : OK X G N cc own nL rm) {x : Int32} (hd : decode cc pc = .ok (.i2c, 1)) (hp : pc + 1 = pc') (kk : AW X G nL N pc' lo (.int (x.toUInt32 % 65536).toInt32 :: st) S a b) : AW X G nL N pc lo (.int x :: st) S a b := by
  subst hp
  intro H locs ls hP hS hl
  exact lv_i2c h.1 h.2.1 hd rfl (kk H locs ls hP hS hl)
theorem r_i2f (h : OK X G N cc own nL rm) {x : Int32} (hd : decode cc pc = .ok (.i2f, 1)) (hp : pc + 1 = pc') (kk : AW X G nL N pc' lo (.float (FP.i2f x) :: st) S a b) : AW X G nL N pc lo (.int x :: st) S a b := by
  subst hp
  intro H locs ls hP hS hl
  exact lv_i2f h.1 h.2.1 hd (kk H locs ls hP hS hl)
theorem r_i2d (h : OK X G N cc own nL rm) {x : Int32} (hd : decode cc pc = .ok (.i2d, 1)) (hp : pc + 1 = pc') (kk : AW X G nL N pc' lo (.double (FP.i2d x) :: st) S a b) : AW X G nL N pc lo (.int x :: st) S a b := by
  subst hp
  intro H locs ls hP hS hl
  exact lv_i2d h.1 h.2.1 hd (kk H locs ls hP hS hl)
theorem r_fdiv (h : OK X G N cc own nL rm) {x y : UInt32} (hd : decode cc pc = .ok (.fdiv, 1)) (hp : pc + 1 = pc') (hn : vf_n32 (FP.fdiv x y)) (kk : AW X G nL N pc' lo (.float (FP.fdiv x y) :: st) S a b) : AW X G nL N pc lo (.float y :: .float x :: st) S a b := by
  subst hp
  intro H locs ls hP hS hl
  exact lv_fdiv h.1 h.2.1 hd hn (kk H locs ls hP hS hl)
theorem r_ddiv (h : OK X G N cc own nL rm) {x y : UInt64} (hd : decode cc pc = .ok (.ddiv, 1)) (hp : pc + 1 = pc') (hn : vf_n64 (FP.ddiv x y)) (kk : AW X G nL N pc' lo (.double (FP.ddiv x y) :: st) S a b) : AW X G nL N pc lo (.double y :: .double x :: st) S a b := by
  subst hp
  intro H locs ls hP hS hl
  exact lv_ddiv h.1 h.2.1 hd hn (kk H locs ls hP hS hl)
theorem r_f2d (h : OK X G N cc own nL rm) {x : UInt32} (hd : decode cc pc = .ok (.f2d, 1)) (hp : pc + 1 = pc') (hn : vf_n64 (FP.f2d x)) (kk : AW X G nL N pc' lo (.double (FP.f2d x) :: st) S a b) : AW X G nL N pc lo (.float x :: st) S a b := by
  subst hp
  intro H locs ls hP hS hl
  exact lv_f2d h.1 h.2.1 hd hn (kk H locs ls hP hS hl)
theorem r_dcmp (h : OK X G N cc own nL rm) {x y : UInt64} {op : CmpOp} (hd : decode cc pc = .ok (.dcmp op, 1)) (hp : pc + 1 = pc') (kk : AW X G nL N pc' lo (.int (Op.cmpValue (FP.dcmp x y) op) :: st) S a b) : AW X G nL N pc lo (.double y :: .double x :: st) S a b := by
  subst hp
  intro H locs ls hP hS hl
  exact lv_dcmp h.1 h.2.1 hd (kk H locs ls hP hS hl)
theorem r_fcmp (h : OK X G N cc own nL rm) {x y : UInt32} {op : CmpOp} (hd : decode cc pc = .ok (.fcmp op, 1)) (hp : pc + 1 = pc') (kk : AW X G nL N pc' lo (.int (Op.cmpValue (FP.fcmp x y) op) :: st) S a b) : AW X G nL N pc lo (.float y :: .float x :: st) S a b := by
  subst hp
  intro H locs ls hP hS hl
  exact lv_fcmp h.1 h.2.1 hd (kk H locs ls hP hS hl)
theorem r_lcmp (h : OK X G N cc own nL rm) {x y : Int64} (hd : decode cc pc = .ok (.lcmp, 1)) (hp : pc + 1 = pc') (kk : AW X G nL N pc' lo (.int (lg_cmp x y) :: st) S a b) : AW X G nL N pc lo (.long y :: .long x :: st) S a b := by
  subst hp
  intro H locs ls hP hS hl
  exact W.lcmp h.1 h.2.1 hd (kk H locs ls hP hS hl)
theorem r_goto (h : OK X G N cc own nL rm) {off : Int} (hd : decode cc pc = .ok (.goto off, 3)) (ht : (pc : Int) + off = (tgt : Int)) (kk : AW X G nL N tgt lo st S a b) : AW X G nL N pc lo st S a b := by
  intro H locs ls hP hS hl
  exact lv_goto h.1 h.2.1 hd ht (kk H locs ls hP hS hl)
theorem r_if_eq (h : OK X G N cc own nL rm) {x : Int32} {off : Int} (hd : decode cc pc = .ok (.ifCond .eq off, 3)) (ht : (pc : Int) + off = (tgt : Int)) (hp : pc + 3 = pc') (kt : x = 0 → AW X G nL N tgt lo st S a b) (kf : ¬ x = 0 → AW X G nL N pc' lo st S a b) : AW X G nL N pc lo (.int x :: st) S a b := by
  subst hp
  intro H locs ls hP hS hl
  refine lv_if_eq h.1 h.2.1 hd ht (fun z => kt z H locs ls hP hS hl) (fun z => kf z H locs ls hP hS hl)
theorem r_if_ne (h : OK X G N cc own nL rm) {x : Int32} {off : Int} (hd : decode cc pc = .ok (.ifCond .ne off, 3)) (ht : (pc : Int) + off = (tgt : Int)) (hp : pc + 3 = pc') (kt : ¬ x = 0 → AW X G nL N tgt lo st S a b) (kf : x = 0 → AW X G nL N pc' lo st S a b) : AW X G nL N pc lo (.int x :: st) S a b := by
  subst hp
  intro H locs ls hP hS hl
  refine lv_if_ne h.1 h.2.1 hd ht (fun z => kt z H locs ls hP hS hl) (fun z => kf z H locs ls hP hS hl)
theorem r_if_lt (h : OK X G N cc own nL rm) {x : Int32} {off : Int} (hd : decode cc pc = .ok (.ifCond .lt off, 3)) (ht : (pc : Int) + off = (tgt : Int)) (hp : pc + 3 = pc') (kt : x < 0 → AW X G nL N tgt lo st S a b) (kf : ¬ x < 0 → AW X G nL N pc' lo st S a b) : AW X G nL N pc lo (.int x :: st) S a b := by
  subst hp
  intro H locs ls hP hS hl
  refine lv_if_lt h.1 h.2.1 hd ht (fun z => kt z H locs ls hP hS hl) (fun z => kf z H locs ls hP hS hl)
theorem r_if_ge (h : OK X G N cc own nL rm) {x : Int32} {off : Int} (hd : decode cc pc = .ok (.ifCond .ge off, 3)) (ht : (pc : Int) + off = (tgt : Int)) (hp : pc + 3 = pc') (kt : 0 ≤ x → AW X G nL N tgt lo st S a b) (kf : ¬ 0 ≤ x → AW X G nL N pc' lo st S a b) : AW X G nL N pc lo (.int x :: st) S a b := by
  subst hp
  intro H locs ls hP hS hl
  refine lv_if_ge h.1 h.2.1 hd ht (fun z => kt z H locs ls hP hS hl) (fun z => kf z H locs ls hP hS hl)
theorem r_if_gt (h : OK X G N cc own nL rm) {x : Int32} {off : Int} (hd : decode cc pc = .ok (.ifCond .gt off, 3)) (ht : (pc : Int) + off = (tgt : Int)) (hp : pc + 3 = pc') (kt : 0 < x → AW X G nL N tgt lo st S a b) (kf : ¬ 0 < x → AW X G nL N pc' lo st S a b) : AW X G nL N pc lo (.int x :: st) S a b := by
  subst hp
  intro H locs ls hP hS hl
  refine lv_if_gt h.1 h.2.1 hd ht (fun z => kt z H locs ls hP hS hl) (fun z => kf z H locs ls hP hS hl)
theorem r_if_le (h : OK X G N cc own nL rm) {x : Int32} {off : Int} (hd : decode cc pc = .ok (.ifCond .le off, 3)) (ht : (pc : Int) + off = (tgt : Int)) (hp : pc + 3 = pc') (kt : x ≤ 0 → AW X G nL N tgt lo st S a b) (kf : ¬ x ≤ 0 → AW X G nL N pc' lo st S a b) : AW X G nL N pc lo (.int x :: st) S a b := by
  subst hp
  intro H locs ls hP hS hl
  refine lv_if_le h.1 h.2.1 hd ht (fun z => kt z H locs ls hP hS hl) (fun z => kf z H locs ls hP hS hl)
theorem r_icmp_eq (h : OK X G N cc own nL rm) {x y : Int32} {off : Int} (hd : decode cc pc = .ok (.if_icmp .eq off, 3)) (ht : (pc : Int) + off = (tgt : Int)) (hp : pc + 3 = pc') (kt : x = y → AW X G nL N tgt lo st S a b) (kf : ¬ x = y → AW X G nL N pc' lo st S a b) : AW X G nL N pc lo (.int y :: .int x :: st) S a b := by
  subst hp
  intro H locs ls hP hS hl
  refine lv_icmp_eq h.1 h.2.1 hd ht (fun z => kt z H locs ls hP hS hl) (fun z => kf z H locs ls hP hS hl)
theorem r_icmp_ne (h : OK X G N cc own nL rm) {x y : Int32} {off : Int} (hd : decode cc pc = .ok (.if_icmp .ne off, 3)) (ht : (pc : Int) + off = (tgt : Int)) (hp : pc + 3 = pc') (kt : ¬ x = y → AW X G nL N tgt lo st S a b) (kf : x = y → AW X G nL N pc' lo st S a b) : AW X G nL N pc lo (.int y :: .int x :: st) S a b := by
  subst hp
  intro H locs ls hP hS hl
  refine lv_icmp_ne h.1 h.2.1 hd ht (fun z => kt z H locs ls hP hS hl) (fun z => kf z H locs ls hP hS hl)
theorem r_icmp_lt (h : OK X G N cc own nL rm) {x y : Int32} {off : Int} (hd : decode cc pc = .ok (.if_icmp .lt off, 3)) (ht : (pc : Int) + off = (tgt : Int)) (hp : pc + 3 = pc') (kt : x < y → AW X G nL N tgt lo st S a b) (kf : ¬ x < y → AW X G nL N pc' lo st S a b) : AW X G nL N pc lo (.int y :: .int x :: st) S a b := by
  subst hp
  intro H locs ls hP hS hl
  refine lv_icmp_lt h.1 h.2.1 hd ht (fun z => kt z H locs ls hP hS hl) (fun z => kf z H locs ls hP hS hl)
theorem r_icmp_ge (h : OK X G N cc own nL rm) {x y : Int32} {off : Int} (hd : decode cc pc = .ok (.if_icmp .ge off, 3)) (ht : (pc : Int) + off = (tgt : Int)) (hp : pc + 3 = pc') (kt : y ≤ x → AW X G nL N tgt lo st S a b) (kf : ¬ y ≤ x → AW X G nL N pc' lo st S a b) : AW X G nL N pc lo (.int y :: .int x :: st) S a b := by
  subst hp
  intro H locs ls hP hS hl
  refine lv_icmp_ge h.1 h.2.1 hd ht (fun z => kt z H locs ls hP hS hl) (fun z => kf z H locs ls hP hS hl)
theorem r_icmp_gt (h : OK X G N cc own nL rm) {x y : Int32} {off : Int} (hd : decode cc pc = .ok (.if_icmp .gt off, 3)) (ht : (pc : Int) + off = (tgt : Int)) (hp : pc + 3 = pc') (kt : y < x → AW X G nL N tgt lo st S a b) (kf : ¬ y < x → AW X G nL N pc' lo st S a b) : AW X G nL N pc lo (.int y :: .int x :: st) S a b := by
  subst hp
  intro H locs ls hP hS hl
  refine lv_icmp_gt h.1 h.2.1 hd ht (fun z => kt z H locs ls hP hS hl) (fun z => kf z H locs ls hP hS hl)
theorem r_icmp_le (h : OK X G N cc own nL rm) {x y : Int32} {off : Int} (hd : decode cc pc = .ok (.if_icmp .le off, 3)) (ht : (pc : Int) + off = (tgt : Int)) (hp : pc + 3 = pc') (kt : x ≤ y → AW X G nL N tgt lo st S a b) (kf : ¬ x ≤ y → AW X G nL N pc' lo st S a b) : AW X G nL N pc lo (.int y :: .int x :: st) S a b := by
  subst hp
  intro H locs ls hP hS hl
  refine lv_icmp_le h.1 h.2.1 hd ht (fun z => kt z H locs ls hP hS hl) (fun z => kf z H locs ls hP hS hl)
theorem r_ifnull (h : OK X G N cc own nL rm) {x : Nat} {off : Int} (hd : decode cc pc = .ok (.ifnull off, 3)) (hp : pc + 3 = pc') (kk : AW X G nL N pc' lo st S a b) : AW X G nL N pc lo (.ref x :: st) S a b := by
  subst hp
  intro H locs ls hP hS hl
  exact lv_ifnull h.1 h.2.1 hd (kk H locs ls hP hS hl)
theorem r_ifnullN (h : OK X G N cc own nL rm) {off : Int} (hd : decode cc pc = .ok (.ifnull off, 3)) (ht : (pc : Int) + off = (tgt : Int)) (kk : AW X G nL N tgt lo st S a b) : AW X G nL N pc lo (.null :: st) S a b := by
  intro H locs ls hP hS hl
  exact lv_ifnullN h.1 h.2.1 hd ht (kk H locs ls hP hS hl)
theorem r_ifnonnull (h : OK X G N cc own nL rm) {x : Nat} {off : Int} (hd : decode cc pc = .ok (.ifnonnull off, 3)) (ht : (pc : Int) + off = (tgt : Int)) (kk : AW X G nL N tgt lo st S a b) : AW X G nL N pc lo (.ref x :: st) S a b := by
  intro H locs ls hP hS hl
  exact lv_ifnonnull h.1 h.2.1 hd ht (kk H locs ls hP hS hl)
theorem r_tableIn (h : OK X G N cc own nL rm) {dflt lw hi : Int} {offs : Array Int} {len : Nat} {x : Int32} {off : Int} (hd : decode cc pc = .ok (.tableswitch dflt lw hi offs, len)) (h1 : ¬ x.toInt < lw) (h2 : ¬ hi < x.toInt) (ho : offs[(x.toInt - lw).toNat]? = some off) (ht : (pc : Int) + off = (tgt : Int)) (kk : AW X G nL N tgt lo st S a b) : AW X G nL N pc lo (.int x :: st) S a b := by
  intro H locs ls hP hS hl
  exact lv_tableIn h.1 h.2.1 hd h1 h2 ho ht (kk H locs ls hP hS hl)
theorem r_tableOut (h : OK X G N cc own nL rm) {dflt lw hi : Int} {offs : Array Int} {len : Nat} {x : Int32} (hd : decode cc pc = .ok (.tableswitch dflt lw hi offs, len)) (h1 : x.toInt < lw ∨ hi < x.toInt) (ht : (pc : Int) + dflt = (tgt : Int)) (kk : AW X G nL N tgt lo st S a b) : AW X G nL N pc lo (.int x :: st) S a b := by
  intro H locs ls hP hS hl
  exact lv_tableOut h.1 h.2.1 hd h1 ht (kk H locs ls hP hS hl)
theorem r_lookup (h : OK X G N cc own nL rm) {dflt : Int} {ps : Array (Int × Int)} {len : Nat} {x : Int32} {off : Int} (hd : decode cc pc = .ok (.lookupswitch dflt ps, len)) (hs : (ps.toList.zip (ps.toList.drop 1)).all (fun (a, next) => a.1 < next.1) = true) (ho : Op.lookupswitch.offset ps.toList dflt x.toInt = off) (ht : (pc : Int) + off = (tgt : Int)) (kk : AW X G nL N tgt lo st S a b) : AW X G nL N pc lo (.int x :: st) S a b := by
  intro H locs ls hP hS hl
  exact lv_lookup h.1 h.2.1 hd hs ho ht (kk H locs ls hP hS hl)
/-- fewer locals, in another order -/
theorem r_sub (ks : List Nat) (hs : lv_pick lo ks = lo') (kk : AW X G nL N pc lo' st S a b) : AW X G nL N pc lo st S a b := fun H locs ls hP hS hl => kk H locs ls hP hS (lv_sub hl ks hs)
/-- the cells and slots made, counted up -/
theorem r_widen {a' b' : Nat} (h1 : a ≤ a') (h2 : b ≤ b') (kk : AW X G nL N pc lo st S a' b') : AW X G nL N pc lo st S a b := fun H locs ls hP hS hl => W.widen h1 h2 (kk H locs ls hP hS hl)
theorem r_world {S' : Nat → va_E} (e : ∀ k, k < N → S k = S' k) (kk : AW X G nL N pc lo st S' a b) : AW X G nL N pc lo st S a b := by
  intro H locs ls hP hS hl
  refine kk H locs ls ?_ hS hl
  have e2 : wl G N S = wl G N S' := List.map_congr_left (fun k hk => by rw [List.mem_range] at hk; rw [e k hk])
  rw [← e2]
  exact hP
theorem r_iald (h : OK X G N cc own nL rm) {k n : Nat} {f : Nat → Int32} {i : Int32} (hd : decode cc pc = .ok (.iaload, 1)) (hp : pc + 1 = pc') (hk : k < N) (hc : S k = .inl (gI G, n, .inl f)) (hin : vp_in i n) (kk : AW X G nL N pc' lo (.int (f i.toNatClampNeg) :: st) S a b) : AW X G nL N pc lo (.int i :: .ref (ad G k) :: st) S a b := by
  subst hp
  intro H locs ls hP hS hl
  exact va_iald h.1 h.2.1 h.2.2.2.2.2.1 hP k 0 (by rw [wl_get hk, hc]) rfl hin hd (kk H locs ls hP hS hl)
theorem r_cald (h : OK X G N cc own nL rm) {k n : Nat} {f : Nat → Int32} {i : Int32} (hd : decode cc pc = .ok (.caload, 1)) (hp : pc + 1 = pc') (hk : k < N) (hc : S k = .inl (gC G, n, .inl f)) (hin : vp_in i n) (kk : AW X G nL N pc' lo (.int (f i.toNatClampNeg) :: st) S a b) : AW X G nL N pc lo (.int i :: .ref (ad G k) :: st) S a b := by
  subst hp
  intro H locs ls hP hS hl
  exact va_cald h.1 h.2.1 h.2.2.2.2.2.1 hP k 1 (by rw [wl_get hk, hc]) rfl hin hd (kk H locs ls hP hS hl)
theorem r_lald (h : OK X G N cc own nL rm) {k n : Nat} {f : Nat → Int64} {i : Int32} (hd : decode cc pc = .ok (.laload, 1)) (hp : pc + 1 = pc') (hk : k < N) (hc : S k = .inl (gJ G, n, .inr (.inl f))) (hin : vp_in i n) (kk : AW X G nL N pc' lo (.long (f i.toNatClampNeg) :: st) S a b) : AW X G nL N pc lo (.int i :: .ref (ad G k) :: st) S a b := by
  subst hp
  intro H locs ls hP hS hl
  exact va_lald h.1 h.2.1 h.2.2.2.2.2.1 hP k 2 (by rw [wl_get hk, hc]) rfl hin hd (kk H locs ls hP hS hl)
theorem r_dald (h : OK X G N cc own nL rm) {k n : Nat} {f : Nat → UInt64} {i : Int32} (hd : decode cc pc = .ok (.daload, 1)) (hp : pc + 1 = pc') (hk : k < N) (hc : S k = .inl (gE G, n, .inr (.inr (.inr (.inl f))))) (hin : vp_in i n) (kk : AW X G nL N pc' lo (.double (f i.toNatClampNeg) :: st) S a b) : AW X G nL N pc lo (.int i :: .ref (ad G k) :: st) S a b := by
  subst hp
  intro H locs ls hP hS hl
  exact va_dald h.1 h.2.1 h.2.2.2.2.2.1 hP k 3 (by rw [wl_get hk, hc]) rfl hin hd (kk H locs ls hP hS hl)
theorem r_iast (h : OK X G N cc own nL rm) {k n : Nat} {f : Nat → Int32} {i : Int32} {x : Int32} (hd : decode cc pc = .ok (.iastore, 1)) (hp : pc + 1 = pc') (hk : k < N) (hc : S k = .inl (gI G, n, .inl f)) (hin : vp_in i n) (kk : AW X G nL N pc' lo st (va_up S k (.inl (gI G, n, .inl (upd f i.toNatClampNeg x)))) a b) : AW X G nL N pc lo (.int x :: .int i :: .ref (ad G k) :: st) S a b := by
  subst hp
  intro H locs ls hP hS hl
  exact va_iast h.1 h.2.1 h.2.2.2.2.2.1 hP h.2.2.2.2.2.2.2.2.2.2.1.D hS k 0 (by rw [wl_get hk, hc]) rfl hin hd (fun H1 locs1 hP1 _ hS1 => kk H1 locs1 ls (by rw [wl_set] at hP1; exact hP1) hS1 hl)
theorem r_cast (h : OK X G N cc own nL rm) {k n : Nat} {f : Nat → Int32} {i : Int32} {x : Int32} (hd : decode cc pc = .ok (.castore, 1)) (hp : pc + 1 = pc') (hk : k < N) (hc : S k = .inl (gC G, n, .inl f)) (hin : vp_in i n) (kk : AW X G nL N pc' lo st (va_up S k (.inl (gC G, n, .inl (upd f i.toNatClampNeg (vp_nar .char x))))) a b) : AW X G nL N pc lo (.int x :: .int i :: .ref (ad G k) :: st) S a b := by
  subst hp
  intro H locs ls hP hS hl
  exact va_cast h.1 h.2.1 h.2.2.2.2.2.1 hP h.2.2.2.2.2.2.2.2.2.2.1.D hS k 1 (by rw [wl_get hk, hc]) rfl hin hd (fun H1 locs1 hP1 _ hS1 => kk H1 locs1 ls (by rw [wl_set] at hP1; exact hP1) hS1 hl)
theorem r_last (h : OK X G N cc own nL rm) {k n : Nat} {f : Nat → Int64} {i : Int32} {x : Int64} (hd : decode cc pc = .ok (.lastore, 1)) (hp : pc + 1 = pc') (hk : k < N) (hc : S k = .inl (gJ G, n, .inr (.inl f))) (hin : vp_in i n) (kk : AW X G nL N pc' lo st (va_up S k (.inl (gJ G, n, .inr (.inl (vp_updL f i.toNatClampNeg x))))) a b) : AW X G nL N pc lo (.long x :: .int i :: .ref (ad G k) :: st) S a b := by
  subst hp
  intro H locs ls hP hS hl
  exact va_last h.1 h.2.1 h.2.2.2.2.2.1 hP h.2.2.2.2.2.2.2.2.2.2.1.D hS k 2 (by rw [wl_get hk, hc]) rfl hin hd (fun H1 locs1 hP1 _ hS1 => kk H1 locs1 ls (by rw [wl_set] at hP1; exact hP1) hS1 hl)
theorem r_dast (h : OK X G N cc own nL rm) {k n : Nat} {f : Nat → UInt64} {i : Int32} {x : UInt64} (hd : decode cc pc = .ok (.dastore, 1)) (hp : pc + 1 = pc') (hk : k < N) (hc : S k = .inl (gE G, n, .inr (.inr (.inr (.inl f))))) (hin : vp_in i n) (kk : AW X G nL N pc' lo st (va_up S k (.inl (gE G, n, .inr (.inr (.inr (.inl (vf_upd f i.toNatClampNeg x))))))) a b) : AW X G nL N pc lo (.double x :: .int i :: .ref (ad G k) :: st) S a b := by
  subst hp
  intro H locs ls hP hS hl
  exact va_dast h.1 h.2.1 h.2.2.2.2.2.1 hP h.2.2.2.2.2.2.2.2.2.2.1.D hS k 3 (by rw [wl_get hk, hc]) rfl hin hd (fun H1 locs1 hP1 _ hS1 => kk H1 locs1 ls (by rw [wl_set] at hP1; exact hP1) hS1 hl)
theorem r_alen (h : OK X G N cc own nL rm) {k t : Nat} {cA : ClassId} {x : vp_A} {ty : FieldType} (hd : decode cc pc = .ok (.arraylength, 1)) (hp : pc + 1 = pc') (hk : k < N) (hc : S k = .inl (cA, x)) (ht : (tys G)[t]? = some (cA, ty)) (kk : AW X G nL N pc' lo (.int (nI x.1) :: st) S a b) : AW X G nL N pc lo (.ref (ad G k) :: st) S a b := by
  subst hp
  intro H locs ls hP hS hl
  exact va_alen h.1 h.2.1 h.2.2.2.2.2.1 hP k t (by rw [wl_get hk, hc]) ht rfl hd (kk H locs ls hP hS hl)
theorem r_aald (h : OK X G N cc own nL rm) {k n : Nat} {f : Nat → Option Nat} {i : Int32} (hd : decode cc pc = .ok (.aaload, 1)) (hp : pc + 1 = pc') (hk : k < N) (hc : S k = .inl (gF G, n, .inr (.inr (.inr (.inr f))))) (hin : vp_in i n) (kk : AW X G nL N pc' lo (va_rf (f i.toNatClampNeg) :: st) S a b) : AW X G nL N pc lo (.int i :: .ref (ad G k) :: st) S a b := by
  subst hp
  intro H locs ls hP hS hl
  exact va_aldq h.1 h.2.1 h.2.2.2.2.2.1 hP k 4 (by rw [wl_get hk, hc]) rfl hin hd (kk H locs ls hP hS hl)
/-- a field is read -/
theorem r_get (h : OK X G N cc own nL rm) {k ci j Nf index : Nat} {C ref nm ds : String} {T : u_T} {fs : List Value} {v : Value} (hd : decode cc pc = .ok (.getfield index, 3)) (hp : pc + 3 = pc') (hk : k < N) (hc : S k = .inr (ci, fs)) (hv : fs[j]? = some v) (hcl : cls[ci]? = some (C, T, Nf)) (hin : ∀ w ∈ u_ws C T Nf, w ∈ gw) (hj : j < Nf) (hT : (T j).1 = ref ∧ (T j).2.1 = nm ∧ (T j).2.2.1 = ds) (hl : Cond.fieldLink own index ref nm ds ∈ gw) (kk : AW X G nL N pc' lo (v :: st) S a b) : AW X G nL N pc lo (.ref (ad G k) :: st) S a b := by
  subst hp
  intro H locs ls hP hS hl2
  obtain ⟨rfl, rfl, rfl⟩ := hT
  exact va_get h.1 h.2.1 h.2.2.2.2.1 hin h.2.2.2.1 h.2.2.2.2.2.1 hP k (by rw [wl_get hk, hc]) hcl j hj (h.2.2.2.2.1 _ hl) (fun _ z => z) hv hd (kk H locs ls hP hS hl2)
/-- a field is written -/
theorem r_put (h : OK X G N cc own nL rm) {k ci j Nf index : Nat} {C ref nm ds : String} {T : u_T} {fs : List Value} {v : Value} {ty : FieldType} {ty0 : Nat → FieldType} (hd : decode cc pc = .ok (.putfield index, 3)) (hp : pc + 3 = pc') (hk : k < N) (hc : S k = .inr (ci, fs)) (hcl : cls[ci]? = some (C, T, Nf)) (hin : ∀ w ∈ u_ws C T Nf, w ∈ gw) (hty : ∀ k, k < Nf → parseFieldDescriptor (T k).2.2.1 = some (ty0 k)) (hnm : ∀ a, a < Nf → ∀ b, b < Nf → a ≠ b → (T a).2.1 ≠ (T b).2.1) (hj : j < Nf) (hT : (T j).1 = ref ∧ (T j).2.1 = nm ∧ (T j).2.2.1 = ds) (hl : Cond.fieldLink own index ref nm ds ∈ gw) (hfin : (T j).2.2.2 = false) (hdesc : parseFieldDescriptor ds = some ty) (hn : narrow ty v = v) (hfit : fits ty v = true) (hlen : j < fs.length) (kk : AW X G nL N pc' lo st (va_up S k (.inr (ci, fs.set j v))) a b) : AW X G nL N pc lo (v :: .ref (ad G k) :: st) S a b := by
  subst hp
  intro H locs ls hP hS hl2
  obtain ⟨rfl, rfl, rfl⟩ := hT
  exact va_put h.1 h.2.1 h.2.2.2.2.1 hin ty0 hty hnm h.2.2.2.1 h.2.2.2.2.2.1 hP h.2.2.2.2.2.2.2.2.2.2.1.D hS k (by rw [wl_get hk, hc]) hcl j hj (h.2.2.2.2.1 _ hl) (fun _ z => z) hfin hdesc hn hfit hlen hd (fun H1 locs1 hP1 _ hS1 => kk H1 locs1 ls (by rw [wl_set] at hP1; exact hP1) hS1 hl2)
end RULES
end
section
/-! CONTRACTS AND CALLS over the whole world. -/
/-- how a method ends: with an answer, or with an exception of a name -/
abbrev RO : Type := Option Value ⊕ String
abbrev RK : Type := RO → (Nat → va_E) → Prop
def QcK (G : GX) (N : Nat) (K : RK) : Array Value → State → Outcome → State → Prop := fun _ st o t =>
  ∃ (v : Option Value) (S' : Nat → va_E), o = .returned v ∧ va_P (gD G) cls (wl G N S') t.heap ∧ K (.inl v) S' ∧ va_F (AA G) st t
def XcK (G : GX) (N : Nat) (K : RK) : String → State → State → Prop := fun E st t =>
  ∃ S' : Nat → va_E, va_P (gD G) cls (wl G N S') t.heap ∧ K (.inr E) S' ∧ va_F (AA G) st t
/-- a method: its name, code, locals, result -/
abbrev MI : Type := MethodName × ByteArray × Nat × Option FieldType
def wsM (M : MI) : List Cond := .code M.1 M.2.1 M.2.2.1 M.2.2.2 :: gw
def rmR (rm : Nat × Nat × Nat × Nat) : Room := { frames := rm.1, locals := rm.2.1, cells := rm.2.2.1, slots := rm.2.2.2 }
/-- what a method's caller must hold -/
def PW (G : GX) (N : Nat) (S : Nat → va_E) (U : State) : Prop := WD G N S U ∧ DD G N
/-- METHOD M, from these arguments and this world, ends so that K holds of its end -/
def RetK (l : Launch) (G : GX) (N : Nat) (M : MI) (rm : Nat × Nat × Nat × Nat) (av : List Value) (S : Nat → va_E) (K : RK) : Prop :=
  l.stackTraces = false → vx_Met l M.1 (wsM M) (rmR rm) (va_Pc av (PW G N S)) (QcK G N K) (XcK G N K) rm.2.2.1 rm.2.2.2 (AA G)
/-- a method's body's own end -/
def OKm (X : CX) (G : GX) (N : Nat) (K : RK) (ret : Option FieldType) (rm : Nat × Nat × Nat × Nat) : Prop :=
  X.2.2.2.2.2.2.2.2.2.2 = vx_MQ X.2.2.2.2.2.2.2.1 (QcK G N K) (XcK G N K) X.2.2.2.2.2.2.1 X.2.2.2.2.1 rm.2.2.1 rm.2.2.2 (AA G) ∧ X.2.2.2.2.2.2.2.2.1.sig.returnType = ret ∧ ∀ x ∈ X.2.2.2.2.2.2.2.2.2.1.exceptionTable.toList, False
theorem gw_ok : ∀ w ∈ gw, (w.onTables && w.keeps) = true ∨ ∃ ty, w = .arrayClass ty := fun _ h => good_of_word (List.mem_filter.mp h).2
theorem PW.blind {G : GX} {N : Nat} {S : Nat → va_E} {av : List Value} : FrameBlind (va_Pc av (PW G N S)) := by
  intro a U g mk h
  obtain ⟨rfl, ⟨h1, h2, h3, h4⟩, h5⟩ := h
  exact ⟨rfl, ⟨h1, va_K.moved (u := U) (Vm.Alike.refl U.vm) h2, h3, SF.same (s := U) rfl h4⟩, h5⟩
/-- a contract's body -/
theorem ret_enter {l : Launch} {G : GX} {N : Nat} {M : MI} {rm : Nat × Nat × Nat × Nat} {av : List Value} {S : Nat → va_E} {K : RK} (hy : plainName M.1.cls = true) (hlen : (lg_sl av).length ≤ M.2.2.1)
    (body : ∀ X : CX, X.2.1 = l → OK X G N M.2.1 M.1.cls M.2.2.1 rm → OKm X G N K M.2.2.2 rm → AW X G M.2.2.1 N 0 (lv_args 0 av) [] S 0 0) : RetK l G N M rm av S K := by
  intro hst
  refine vx_ofW (cc := M.2.1) (maxL := M.2.2.1) (ret := M.2.2.2) hy rfl ?_
  intro p e s m args below meth c s₁ B hml ht hv
  obtain ⟨rfl, ⟨hP, hK, hB, hF⟩, hD⟩ := hv
  have hts : ∀ w ∈ wsM M, w.before av.toArray s = true := atoms_spec (ws := wsM M) B.pre
  have hown : s.vm.findClass M.1.cls = some m.cls := findClass_of_methodNamed B.named
  rw [lg_entry_eq]
  exact body (p, l, e, rmR rm, s, m, av.toArray, below, meth, c, vx_MQ below (QcK G N K) (XcK G N K) av.toArray s rm.2.2.1 rm.2.2.2 (AA G)) rfl
    ⟨B.exec, B.bytes, hml, hown, fun w hw => hts w (List.mem_cons_of_mem _ hw), hK, hB, B.notSynchronized, hst, hF, hD, Nat.le_refl _, Nat.le_refl _, Nat.le_refl _, Nat.le_refl _⟩
    ⟨rfl, B.returns, ht⟩ s.heap [] _ hP va_S.rf (lv_entry av hlen)
section CALLS
variable {X : CX} {G : GX} {cc : ByteArray} {own : String} {nL N pc pc' tgt : Nat} {lo lo' : List (Nat × Value)} {st stk : List Value} {S : Nat → va_E} {a b : Nat} {rm : Nat × Nat × Nat × Nat} {K : RK} {ret : Option FieldType}
/-- ends -/
theorem r_ireturn (h : OK X G N cc own nL rm) (hm : OKm X G N K (some .int) rm) {x : Int32} (hd : decode cc pc = .ok (.ireturn, 1)) (ha : a ≤ rm.2.2.1) (hb : b ≤ rm.2.2.2) (hk : K (.inl (some (.int x))) S) : AW X G nL N pc lo [.int x] S a b := by
  intro H locs ls hP hS hl
  unfold xW
  rw [hm.1]
  refine W.widen ha hb (vx_ret (W.iret h.1 h.2.1 hm.2.1 (fun t ht hW => ⟨_, S, rfl, by rw [ht]; exact hP, hk, hS.F ht⟩) hS.2.2 hd h.2.2.2.2.2.2.2.1))
theorem r_zreturn (h : OK X G N cc own nL rm) {ty : FieldType} (hm : OKm X G N K (some ty) rm) {x : Int32} (hd : decode cc pc = .ok (.ireturn, 1)) (ha : a ≤ rm.2.2.1) (hb : b ≤ rm.2.2.2) (hn : narrow ty (.int x) = .int x) (hk : K (.inl (some (.int x))) S) : AW X G nL N pc lo [.int x] S a b := by
  intro H locs ls hP hS hl
  unfold xW
  rw [hm.1]
  refine W.widen ha hb (vx_ret (W.zret h.1 h.2.1 hm.2.1 hn (fun t ht hW => ⟨_, S, rfl, by rw [ht]; exact hP, hk, hS.F ht⟩) hS.2.2 hd h.2.2.2.2.2.2.2.1))
theorem r_lreturn (h : OK X G N cc own nL rm) (hm : OKm X G N K (some .long) rm) {x : Int64} (hd : decode cc pc = .ok (.lreturn, 1)) (ha : a ≤ rm.2.2.1) (hb : b ≤ rm.2.2.2) (hk : K (.inl (some (.long x))) S) : AW X G nL N pc lo [.long x] S a b := by
  intro H locs ls hP hS hl
  unfold xW
  rw [hm.1]
  refine W.widen ha hb (vx_ret (W.lret h.1 h.2.1 hm.2.1 (fun t ht hW => ⟨_, S, rfl, by rw [ht]; exact hP, hk, hS.F ht⟩) hS.2.2 hd h.2.2.2.2.2.2.2.1))
theorem r_dreturn (h : OK X G N cc own nL rm) (hm : OKm X G N K (some .double) rm) {x : UInt64} (hd : decode cc pc = .ok (.dreturn, 1)) (ha : a ≤ rm.2.2.1) (hb : b ≤ rm.2.2.2) (hk : K (.inl (some (.double x))) S) : AW X G nL N pc lo [.double x] S a b := by
  intro H locs ls hP hS hl
  unfold xW
  rw [hm.1]
  refine W.widen ha hb (vx_ret (W.dret h.1 h.2.1 hm.2.1 (fun t ht hW => ⟨_, S, rfl, by rw [ht]; exact hP, hk, hS.F ht⟩) hS.2.2 hd h.2.2.2.2.2.2.2.1))
theorem r_freturn (h : OK X G N cc own nL rm) (hm : OKm X G N K (some .float) rm) {x : UInt32} (hd : decode cc pc = .ok (.freturn, 1)) (ha : a ≤ rm.2.2.1) (hb : b ≤ rm.2.2.2) (hk : K (.inl (some (.float x))) S) : AW X G nL N pc lo [.float x] S a b := by
  intro H locs ls hP hS hl
  unfold xW
  rw [hm.1]
  refine W.widen ha hb (vx_ret (W.fret h.1 h.2.1 hm.2.1 (fun t ht hW => ⟨_, S, rfl, by rw [ht]; exact hP, hk, hS.F ht⟩) hS.2.2 hd h.2.2.2.2.2.2.2.1))
theorem r_areturn (h : OK X G N cc own nL rm) {n : String} (hm : OKm X G N K (some (.object n)) rm) {v : Value} (hd : decode cc pc = .ok (.areturn, 1)) (ha : a ≤ rm.2.2.1) (hb : b ≤ rm.2.2.2) (hv : v = .null ∨ ∃ a, v = .ref a) (hk : K (.inl (some v)) S) : AW X G nL N pc lo [v] S a b := by
  intro H locs ls hP hS hl
  unfold xW
  rw [hm.1]
  refine W.widen ha hb (vx_ret (W.aret h.1 h.2.1 hm.2.1 (Or.inl ⟨n, rfl⟩) hv (fun t ht hW => ⟨_, S, rfl, by rw [ht]; exact hP, hk, hS.F ht⟩) hS.2.2 hd h.2.2.2.2.2.2.2.1))
theorem r_return (h : OK X G N cc own nL rm) (hm : OKm X G N K none rm) (hd : decode cc pc = .ok (.return_, 1)) (ha : a ≤ rm.2.2.1) (hb : b ≤ rm.2.2.2) (hk : K (.inl none) S) : AW X G nL N pc lo [] S a b := by
  intro H locs ls hP hS hl
  unfold xW
  rw [hm.1]
  refine W.widen ha hb (vx_ret (W.vret h.1 h.2.1 hm.2.1 (fun t ht hW => ⟨_, S, rfl, by rw [ht]; exact hP, hk, hS.F ht⟩) hS.2.2 hd h.2.2.2.2.2.2.2.1))
/-- how the caller goes on behind a call: with the answer, or out with the exception -/
def KC (X : CX) (G : GX) (nL N pc' : Nat) (lo : List (Nat × Value)) (st : List Value) (a b : Nat) (K : RK) : RK := fun o S' => match o with
  | .inl none => AW X G nL N pc' lo st S' a b
  | .inl (some v) => AW X G nL N pc' lo (v :: st) S' a b
  | .inr E => K (.inr E) S'
/-- a method's own facts: an instance method -/
def MV (M : MI) (n : Nat) (C : String) : Prop := Cond.instanceMethod M.1 ∈ gw ∧ Cond.selects C M.1 M.1 ∈ gw ∧ Cond.initialized M.1.cls ∈ gw ∧ Cond.code M.1 M.2.1 M.2.2.1 M.2.2.2 ∈ gw ∧ (M.1.cls ≠ "java/lang/invoke/MethodHandle" ∧ M.1.cls ≠ "java/lang/invoke/VarHandle") ∧ (parseMethodDescriptor M.1.desc).map (fun d => d.parameters.length) = some n
/-- a static one -/
def MS (M : MI) (n : Nat) : Prop := Cond.static M.1 ∈ gw ∧ Cond.initialized M.1.cls ∈ gw ∧ Cond.code M.1 M.2.1 M.2.2.1 M.2.2.2 ∈ gw ∧ (M.1.cls ≠ "java/lang/invoke/MethodHandle" ∧ M.1.cls ≠ "java/lang/invoke/VarHandle") ∧ (parseMethodDescriptor M.1.desc).map (fun d => d.parameters.length) = some n
/-- a callee's room in its caller's -/
def RR (rm rm' : Nat × Nat × Nat × Nat) (ml a b : Nat) : Prop := rm'.1 + 1 ≤ rm.1 ∧ 8 + (ml + 11) + rm'.2.1 ≤ rm.2.1 ∧ a + rm'.2.2.1 ≤ rm.2.2.1 ∧ b + rm'.2.2.2 ≤ rm.2.2.2
theorem wsM_in {M : MI} (hc : Cond.code M.1 M.2.1 M.2.2.1 M.2.2.2 ∈ gw) : GoodIn gw (wsM M) := fun w hw => by
  rcases List.mem_cons.mp hw with rfl | hw
  · exact ⟨hc, gw_ok _ hc⟩
  · exact ⟨hw, gw_ok _ hw⟩
theorem pw_pre (h : OK X G N cc own nL rm) {H : Heap} {locs : List Loc} {av : List Value} (hP : va_P (gD G) cls (wl G N S) H) (hS : va_S (AA G) X.2.2.2.2.1.heap H locs) : ∀ U : State, U.heap = H → X.2.2.2.2.1.WarmedH U.vm → va_Pc av (PW G N S) av.toArray U := by
  intro U hU hW
  refine ⟨rfl, ⟨by rw [hU]; exact hP, va_K.moved hW.alike h.2.2.2.2.2.1, by rw [hU]; exact Nat.le_trans h.2.2.2.2.2.2.1 hS.1, ?_⟩, h.2.2.2.2.2.2.2.2.2.2.1⟩
  rw [hU]
  exact SF.kept (SF.warm hW h.2.2.2.2.2.2.2.2.2.1) hS.2.1
/-- behind a call of any kind -/
theorem back_to (h : OK X G N cc own nL rm) (hm : OKm X G N K ret rm) {M : MI} {rm' : Nat × Nat × Nat × Nat} {H : Heap} {locs : List Loc} {ls : Array Slot} {av : List Value} {T : State}
    (hS : va_S (AA G) X.2.2.2.2.1.heap H locs) (hl2 : lv_has ls nL lo) (hr : RR rm rm' M.2.2.1 a b) (hT : T.heap = H)
    (XX : Stand X.1 X.2.1 X.2.2.1 X.2.2.2.1 X.2.2.2.2.1 X.2.2.2.2.2.1 X.2.2.2.2.2.2.1 X.2.2.2.2.2.2.2.1 X.2.2.2.2.2.2.2.2.1 X.2.2.2.2.2.2.2.2.2.1 T locs a b)
    (run : vx_Run X.1 X.2.1 X.2.2.1 X.2.2.2.1 X.2.2.2.2.1 X.2.2.2.2.2.1 X.2.2.2.2.2.2.1 X.2.2.2.2.2.2.2.1 X.2.2.2.2.2.2.2.2.1 X.2.2.2.2.2.2.2.2.2.1 H locs a b rm'.2.2.1 rm'.2.2.2 (F0 X.2.2.2.2.2.1 pc ls stk) st (QcK G N (KC X G nL N (pc + 3) lo st (a + rm'.2.2.1) (b + rm'.2.2.2) K) av.toArray) (XcK G N (KC X G nL N (pc + 3) lo st (a + rm'.2.2.1) (b + rm'.2.2.2) K)) (AA G)) :
    ∃ t, Steps X.1.tables X.2.2.1 X.2.2.2.2.2.2.2.1 (T.setTop (F0 X.2.2.2.2.2.1 pc ls stk)) t ∧ X.2.2.2.2.2.2.2.2.2.2 t := by
  rcases run T hT XX with ⟨v, st₀, t, T', L, h0, X', hL, e1, e2, ⟨v', S', hv, hP', hK', hF⟩, stp⟩ | ⟨q, st₀, t, T', L, E, ce, h0, X', hL, e1, e2, ⟨S', hP', hK', hF⟩, hce, hcv, hcl, stp⟩
  · cases hv
    obtain ⟨k1, k2, k3⟩ := vx_keep (A0 := AA G) h0 e1 hS (fun q _ hq => hq) (fun q hq => hq) hL hF
    cases v with
    | none =>
      have hK2 : AW X G nL N (pc + 3) lo _ S' (a + rm'.2.2.1) (b + rm'.2.2.2) := hK'
      obtain ⟨t2, a1, b1⟩ := hK2 T'.heap (locs ++ L) ls (by rw [e1]; exact hP') k3 hl2 T' rfl X'
      exact ⟨t2, stp t2 a1, b1⟩
    | some v =>
      have hK2 : AW X G nL N (pc + 3) lo (v :: _) S' (a + rm'.2.2.1) (b + rm'.2.2.2) := hK'
      obtain ⟨t2, a1, b1⟩ := hK2 T'.heap (locs ++ L) ls (by rw [e1]; exact hP') k3 hl2 T' rfl X'
      exact ⟨t2, stp t2 a1, b1⟩
  · obtain ⟨k1, k2, k3⟩ := vx_keep (A0 := AA G) h0 e1 hS (fun q _ hq => hq) (fun q hq => hq) hL hF
    have hK2 : K (.inr E) S' := hK'
    rw [hm.1]
    have out := vx_out (Qc := QcK G N K) (XC := XcK G N K) (free := AA G) (p := X.1) (l := X.2.1) (e := X.2.2.1) (R := X.2.2.2.1) (m := X.2.2.2.2.2.1) (rest := st) (args := X.2.2.2.2.2.2.1) (below := X.2.2.2.2.2.2.2.1) (H := T'.heap) (locs := locs ++ L) (cells := a + rm'.2.2.1) (slots := b + rm'.2.2.2) (ls := ls) (pc := pc) (E := E) (ce := ce) (q := q) (mc := rm.2.2.1) (ms := rm.2.2.2) (fun x hx => (hm.2.2 x hx).elim) h.2.2.2.2.2.2.2.1 (by rw [e1]; exact hce) hcv hcl (fun t3 ht3 _ => ⟨S', by rw [ht3, e1]; exact hP', hK2, k3.F ht3⟩) k3.2.2 hr.2.2.1 hr.2.2.2
    obtain ⟨t2, a1, b1⟩ := out T' rfl X'
    exact ⟨t2, stp.trans a1, b1⟩
/-- a call by the receiver's kind -/
theorem r_callV (h : OK X G N cc own nL rm) (hm : OKm X G N K ret rm) {M : MI} {rm' : Nat × Nat × Nat × Nat} {index n k ci Nf : Nat} {C : String} {Tf : u_T} {fs As : List Value} (hd : decode cc pc = .ok (.invokevirtual index, 3)) (hp : pc + 3 = pc')
    (hl : Cond.methodLink own index M.1 ∈ gw) (hM : MV M n C) (hcl : cls[ci]? = some (C, Tf, Nf)) (hk : k < N) (hc : S k = .inr (ci, fs)) (hn : As.length = n) (hs : stk = As.reverse ++ .ref (ad G k) :: st) (hW : (st.map fun v => v.category).sum ≤ 8) (hr : RR rm rm' M.2.2.1 a b)
    (hcall : RetK X.2.1 G N M rm' (.ref (ad G k) :: As) S (KC X G nL N pc' lo st (a + rm'.2.2.1) (b + rm'.2.2.2) K)) : AW X G nL N pc lo stk S a b := by
  subst hp
  subst hs
  intro H locs ls hP hS hl2
  have hts := h.2.2.2.2.1
  intro T hT XX
  refine back_to (st := st) (av := .ref (ad G k) :: As) h hm hS hl2 hr hT XX ?_
  refine vx_runV (Ts := gw) (cc := cc) (nL := nL) (own := own) (C := C) (n := n) (bytes := M.2.1) (maxL := M.2.2.1) (ret := M.2.2.2) (ws := wsM M) (rm := rmR rm') (Pc := va_Pc (.ref (ad G k) :: As) (PW G N S)) ⟨h.1, h.2.1, h.2.2.1, h.2.2.2.1, hts⟩ (hcall h.2.2.2.2.2.2.2.2.1)
    ⟨callB_of n hts (wsM_in hM.2.2.2.1) rfl rfl rfl (hts _ hM.2.2.1) (hts _ hl) ⟨hM.2.2.2.2.1.1, hM.2.2.2.2.1.2, hM.2.2.2.2.2⟩ ⟨Nat.le_trans hr.1 h.2.2.2.2.2.2.2.2.2.2.2.1, Nat.le_trans hr.2.1 h.2.2.2.2.2.2.2.2.2.2.2.2.1⟩, hts _ hM.1, hts _ hM.2.1⟩
    ⟨PW.blind, va_recv h.2.2.2.2.2.1 hP hcl (by rw [wl_get hk, hc]), pw_pre h hP hS⟩ rfl hn hl2.1 rfl (lv_room hW) hd ⟨Nat.le_trans hr.2.2.1 h.2.2.2.2.2.2.2.2.2.2.2.2.2.1, Nat.le_trans hr.2.2.2 h.2.2.2.2.2.2.2.2.2.2.2.2.2.2⟩
/-- a static call -/
theorem r_callS (h : OK X G N cc own nL rm) (hm : OKm X G N K ret rm) {M : MI} {rm' : Nat × Nat × Nat × Nat} {index n : Nat} {As : List Value} (hd : decode cc pc = .ok (.invokestatic index, 3)) (hp : pc + 3 = pc')
    (hl : Cond.methodLink own index M.1 ∈ gw) (hM : MS M n) (hn : As.length = n) (hs : stk = As.reverse ++ st) (hW : (st.map fun v => v.category).sum ≤ 8) (hr : RR rm rm' M.2.2.1 a b)
    (hcall : RetK X.2.1 G N M rm' As S (KC X G nL N pc' lo st (a + rm'.2.2.1) (b + rm'.2.2.2) K)) : AW X G nL N pc lo stk S a b := by
  subst hp
  subst hs
  intro H locs ls hP hS hl2
  have hts := h.2.2.2.2.1
  intro T hT XX
  refine back_to (st := st) (av := As) h hm hS hl2 hr hT XX ?_
  refine vx_runS (Ts := gw) (cc := cc) (nL := nL) (own := own) (n := n) (bytes := M.2.1) (maxL := M.2.2.1) (ret := M.2.2.2) (ws := wsM M) (rm := rmR rm') (Pc := va_Pc As (PW G N S)) ⟨h.1, h.2.1, h.2.2.1, h.2.2.2.1, hts⟩ (hcall h.2.2.2.2.2.2.2.2.1)
    ⟨callB_of n hts (wsM_in hM.2.2.1) rfl rfl rfl (hts _ hM.2.1) (hts _ hl) ⟨hM.2.2.2.1.1, hM.2.2.2.1.2, hM.2.2.2.2⟩ ⟨Nat.le_trans hr.1 h.2.2.2.2.2.2.2.2.2.2.2.1, Nat.le_trans hr.2.1 h.2.2.2.2.2.2.2.2.2.2.2.2.1⟩, hts _ hM.1⟩
    ⟨PW.blind, pw_pre h hP hS⟩ rfl hn hl2.1 rfl (lv_room hW) hd ⟨Nat.le_trans hr.2.2.1 h.2.2.2.2.2.2.2.2.2.2.2.2.2.1, Nat.le_trans hr.2.2.2 h.2.2.2.2.2.2.2.2.2.2.2.2.2.2⟩
/-- a static call of a nest mate's private method -/
theorem r_callSN (h : OK X G N cc own nL rm) (hm : OKm X G N K ret rm) {M : MI} {rm' : Nat × Nat × Nat × Nat} {index n : Nat} {host : String} {As : List Value} (hd : decode cc pc = .ok (.invokestatic index, 3)) (hp : pc + 3 = pc')
    (hl : Cond.methodLinkNest own index M.1 host ∈ nw) (hM : MS M n) (hn : As.length = n) (hs : stk = As.reverse ++ st) (hW : (st.map fun v => v.category).sum ≤ 8) (hr : RR rm rm' M.2.2.1 a b)
    (hcall : RetK X.2.1 G N M rm' As S (KC X G nL N pc' lo st (a + rm'.2.2.1) (b + rm'.2.2.2) K)) : AW X G nL N pc lo stk S a b := by
  subst hp
  subst hs
  intro H locs ls hP hS hl3
  have hts := h.2.2.2.2.1
  intro T hT XX
  refine back_to (st := st) (av := As) h hm hS hl3 hr hT XX ?_
  refine vx_runSN (Ts := gw) (cc := cc) (nL := nL) (own := own) (host := host) (n := n) (bytes := M.2.1) (maxL := M.2.2.1) (ret := M.2.2.2) (ws := wsM M) (rm := rmR rm') (Pc := va_Pc As (PW G N S)) ⟨h.1, h.2.1, h.2.2.1, h.2.2.2.1, hts⟩ (hcall h.2.2.2.2.2.2.2.2.1)
    ⟨⟨⟨rfl, rfl, Nat.le_trans hr.1 h.2.2.2.2.2.2.2.2.2.2.2.1, Nat.le_trans hr.2.1 h.2.2.2.2.2.2.2.2.2.2.2.2.1, pay_in hts (wsM_in hM.2.2.1), List.mem_cons_self⟩, hts _ hM.2.2.1, hts _ hM.2.1, hM.2.2.2.1, fun sig hsig => ?_, va_Nw.use rfl (h.2.2.2.2.2.2.2.2.2.1.2.2.2.2.2.2 _ hl)⟩, hts _ hM.1, trivial⟩
    ⟨PW.blind, pw_pre h hP hS⟩ rfl hn hl3.1 rfl (lv_room hW) hd ⟨Nat.le_trans hr.2.2.1 h.2.2.2.2.2.2.2.2.2.2.2.2.2.1, Nat.le_trans hr.2.2.2 h.2.2.2.2.2.2.2.2.2.2.2.2.2.2⟩
  have h2 := hM.2.2.2.2
  rw [hsig] at h2
  exact (Option.some.inj h2).symm
end CALLS
end
section
/-! THE METHODS: each by its name, code, locals, result; what the tables say of it; the links. -/
abbrev mX0_init : MI := (yX0_init, cX0_init, 1, none)
theorem vX0_init : Cond.instanceMethod yX0_init ∈ gw ∧ Cond.initialized yX0_init.cls ∈ gw ∧ Cond.code yX0_init cX0_init 1 none ∈ gw := ⟨gw_in (tb_1 135 (by decide +kernel)) (by decide +kernel), gw_in (tb_1 4 (by decide +kernel)) (by decide +kernel), gw_in (tb_1 136 (by decide +kernel)) (by decide +kernel)⟩
abbrev mX0_restart : MI := (yX0_restart, cX0_restart, 1, none)
theorem vX0_restart : MV mX0_restart 0 RX0 := ⟨gw_in (tb_5 120 (by decide +kernel)) (by decide +kernel), gw_in (tb_5 121 (by decide +kernel)) (by decide +kernel), gw_in (tb_1 4 (by decide +kernel)) (by decide +kernel), gw_in (tb_5 122 (by decide +kernel)) (by decide +kernel), ⟨by decide +kernel, by decide +kernel⟩, by decide +kernel⟩
abbrev mX0_argument : MI := (yX0_argument, cX0_argument, 2, (some .int))
theorem vX0_argument : MV mX0_argument 1 RX0 := ⟨gw_in (tb_5 166 (by decide +kernel)) (by decide +kernel), gw_in (tb_5 167 (by decide +kernel)) (by decide +kernel), gw_in (tb_1 4 (by decide +kernel)) (by decide +kernel), gw_in (tb_5 168 (by decide +kernel)) (by decide +kernel), ⟨by decide +kernel, by decide +kernel⟩, by decide +kernel⟩
abbrev mX0_countCommands : MI := (yX0_countCommands, cX0_countCommands, 2, (some .int))
theorem vX0_countCommands : MV mX0_countCommands 0 RX0 := ⟨gw_in (tb_5 116 (by decide +kernel)) (by decide +kernel), gw_in (tb_5 117 (by decide +kernel)) (by decide +kernel), gw_in (tb_1 4 (by decide +kernel)) (by decide +kernel), gw_in (tb_5 118 (by decide +kernel)) (by decide +kernel), ⟨by decide +kernel, by decide +kernel⟩, by decide +kernel⟩
abbrev mX0_readNext : MI := (yX0_readNext, cX0_readNext, 3, (some .boolean))
theorem vX0_readNext : MV mX0_readNext 0 RX0 := ⟨gw_in (tb_5 124 (by decide +kernel)) (by decide +kernel), gw_in (tb_5 125 (by decide +kernel)) (by decide +kernel), gw_in (tb_1 4 (by decide +kernel)) (by decide +kernel), gw_in (tb_5 126 (by decide +kernel)) (by decide +kernel), ⟨by decide +kernel, by decide +kernel⟩, by decide +kernel⟩
abbrev mX0_partsOf : MI := (yX0_partsOf, cX0_partsOf, 1, (some (.object "java/lang/String")))
theorem vX0_partsOf : MS mX0_partsOf 1 := ⟨gw_in (tb_5 133 (by decide +kernel)) (by decide +kernel), gw_in (tb_1 4 (by decide +kernel)) (by decide +kernel), gw_in (tb_5 134 (by decide +kernel)) (by decide +kernel), ⟨by decide +kernel, by decide +kernel⟩, by decide +kernel⟩
abbrev mX0_readPart : MI := (yX0_readPart, cX0_readPart, 2, (some .boolean))
theorem vX0_readPart : MV mX0_readPart 1 RX0 := ⟨gw_in (tb_5 145 (by decide +kernel)) (by decide +kernel), gw_in (tb_0 24 (by decide +kernel)) (by decide +kernel), gw_in (tb_1 4 (by decide +kernel)) (by decide +kernel), gw_in (tb_5 146 (by decide +kernel)) (by decide +kernel), ⟨by decide +kernel, by decide +kernel⟩, by decide +kernel⟩
abbrev mX0_readDigits : MI := (yX0_readDigits, cX0_readDigits, 4, (some .boolean))
theorem vX0_readDigits : MV mX0_readDigits 1 RX0 := ⟨gw_in (tb_5 149 (by decide +kernel)) (by decide +kernel), gw_in (tb_0 25 (by decide +kernel)) (by decide +kernel), gw_in (tb_1 4 (by decide +kernel)) (by decide +kernel), gw_in (tb_5 150 (by decide +kernel)) (by decide +kernel), ⟨by decide +kernel, by decide +kernel⟩, by decide +kernel⟩
abbrev mX0_readDirection : MI := (yX0_readDirection, cX0_readDirection, 2, (some .boolean))
theorem vX0_readDirection : MV mX0_readDirection 0 RX0 := ⟨gw_in (tb_5 159 (by decide +kernel)) (by decide +kernel), gw_in (tb_0 27 (by decide +kernel)) (by decide +kernel), gw_in (tb_1 4 (by decide +kernel)) (by decide +kernel), gw_in (tb_5 160 (by decide +kernel)) (by decide +kernel), ⟨by decide +kernel, by decide +kernel⟩, by decide +kernel⟩
abbrev mX0_readSign : MI := (yX0_readSign, cX0_readSign, 2, (some .boolean))
theorem vX0_readSign : MV mX0_readSign 1 RX0 := ⟨gw_in (tb_5 129 (by decide +kernel)) (by decide +kernel), gw_in (tb_0 23 (by decide +kernel)) (by decide +kernel), gw_in (tb_1 4 (by decide +kernel)) (by decide +kernel), gw_in (tb_5 130 (by decide +kernel)) (by decide +kernel), ⟨by decide +kernel, by decide +kernel⟩, by decide +kernel⟩
abbrev mX0_keepArgument : MI := (yX0_keepArgument, cX0_keepArgument, 2, none)
theorem vX0_keepArgument : MV mX0_keepArgument 1 RX0 := ⟨gw_in (tb_5 154 (by decide +kernel)) (by decide +kernel), gw_in (tb_0 26 (by decide +kernel)) (by decide +kernel), gw_in (tb_1 4 (by decide +kernel)) (by decide +kernel), gw_in (tb_5 155 (by decide +kernel)) (by decide +kernel), ⟨by decide +kernel, by decide +kernel⟩, by decide +kernel⟩
abbrev mX1_init : MI := (yX1_init, cX1_init, 1, none)
theorem vX1_init : Cond.instanceMethod yX1_init ∈ gw ∧ Cond.initialized yX1_init.cls ∈ gw ∧ Cond.code yX1_init cX1_init 1 none ∈ gw := ⟨gw_in (tb_1 33 (by decide +kernel)) (by decide +kernel), gw_in (tb_1 2 (by decide +kernel)) (by decide +kernel), gw_in (tb_1 34 (by decide +kernel)) (by decide +kernel)⟩
abbrev mX1_copyFrom : MI := (yX1_copyFrom, cX1_copyFrom, 2, none)
theorem vX1_copyFrom : MV mX1_copyFrom 1 RX1 := ⟨gw_in (tb_3 70 (by decide +kernel)) (by decide +kernel), gw_in (tb_3 71 (by decide +kernel)) (by decide +kernel), gw_in (tb_1 2 (by decide +kernel)) (by decide +kernel), gw_in (tb_3 72 (by decide +kernel)) (by decide +kernel), ⟨by decide +kernel, by decide +kernel⟩, by decide +kernel⟩
abbrev mX1_copyRow : MI := (yX1_copyRow, cX1_copyRow, 3, none)
theorem vX1_copyRow : MS mX1_copyRow 2 := ⟨gw_in (tb_3 74 (by decide +kernel)) (by decide +kernel), gw_in (tb_1 2 (by decide +kernel)) (by decide +kernel), gw_in (tb_3 75 (by decide +kernel)) (by decide +kernel), ⟨by decide +kernel, by decide +kernel⟩, by decide +kernel⟩
abbrev mX1_hasTurbine : MI := (yX1_hasTurbine, cX1_hasTurbine, 2, (some .boolean))
theorem vX1_hasTurbine : MV mX1_hasTurbine 1 RX1 := ⟨gw_in (tb_2 150 (by decide +kernel)) (by decide +kernel), gw_in (tb_2 151 (by decide +kernel)) (by decide +kernel), gw_in (tb_1 2 (by decide +kernel)) (by decide +kernel), gw_in (tb_2 152 (by decide +kernel)) (by decide +kernel), ⟨by decide +kernel, by decide +kernel⟩, by decide +kernel⟩
abbrev mX1_turbineIn : MI := (yX1_turbineIn, cX1_turbineIn, 3, (some .int))
theorem vX1_turbineIn : MV mX1_turbineIn 2 RX1 := ⟨gw_in (tb_2 65 (by decide +kernel)) (by decide +kernel), gw_in (tb_2 66 (by decide +kernel)) (by decide +kernel), gw_in (tb_1 2 (by decide +kernel)) (by decide +kernel), gw_in (tb_2 67 (by decide +kernel)) (by decide +kernel), ⟨by decide +kernel, by decide +kernel⟩, by decide +kernel⟩
abbrev mX1_isInState : MI := (yX1_isInState, cX1_isInState, 3, (some .boolean))
theorem vX1_isInState : MV mX1_isInState 2 RX1 := ⟨gw_in (tb_1 226 (by decide +kernel)) (by decide +kernel), gw_in (tb_1 227 (by decide +kernel)) (by decide +kernel), gw_in (tb_1 2 (by decide +kernel)) (by decide +kernel), gw_in (tb_1 228 (by decide +kernel)) (by decide +kernel), ⟨by decide +kernel, by decide +kernel⟩, by decide +kernel⟩
abbrev mX1_isCurtailed : MI := (yX1_isCurtailed, cX1_isCurtailed, 2, (some .boolean))
theorem vX1_isCurtailed : MV mX1_isCurtailed 1 RX1 := ⟨gw_in (tb_2 162 (by decide +kernel)) (by decide +kernel), gw_in (tb_2 163 (by decide +kernel)) (by decide +kernel), gw_in (tb_1 2 (by decide +kernel)) (by decide +kernel), gw_in (tb_2 164 (by decide +kernel)) (by decide +kernel), ⟨by decide +kernel, by decide +kernel⟩, by decide +kernel⟩
abbrev mX1_countInState : MI := (yX1_countInState, cX1_countInState, 4, (some .int))
theorem vX1_countInState : MV mX1_countInState 1 RX1 := ⟨gw_in (tb_1 222 (by decide +kernel)) (by decide +kernel), gw_in (tb_1 223 (by decide +kernel)) (by decide +kernel), gw_in (tb_1 2 (by decide +kernel)) (by decide +kernel), gw_in (tb_1 224 (by decide +kernel)) (by decide +kernel), ⟨by decide +kernel, by decide +kernel⟩, by decide +kernel⟩
abbrev mX1_crewsLeft : MI := (yX1_crewsLeft, cX1_crewsLeft, 1, (some .int))
theorem vX1_crewsLeft : MV mX1_crewsLeft 0 RX1 := ⟨gw_in (tb_1 218 (by decide +kernel)) (by decide +kernel), gw_in (tb_1 219 (by decide +kernel)) (by decide +kernel), gw_in (tb_1 2 (by decide +kernel)) (by decide +kernel), gw_in (tb_1 220 (by decide +kernel)) (by decide +kernel), ⟨by decide +kernel, by decide +kernel⟩, by decide +kernel⟩
abbrev mX1_firstInService : MI := (yX1_firstInService, cX1_firstInService, 2, (some .int))
theorem vX1_firstInService : MV mX1_firstInService 0 RX1 := ⟨gw_in (tb_3 35 (by decide +kernel)) (by decide +kernel), gw_in (tb_0 10 (by decide +kernel)) (by decide +kernel), gw_in (tb_1 2 (by decide +kernel)) (by decide +kernel), gw_in (tb_3 36 (by decide +kernel)) (by decide +kernel), ⟨by decide +kernel, by decide +kernel⟩, by decide +kernel⟩
abbrev mX1_isBidFor : MI := (yX1_isBidFor, cX1_isBidFor, 2, (some .boolean))
theorem vX1_isBidFor : MV mX1_isBidFor 1 RX1 := ⟨gw_in (tb_2 173 (by decide +kernel)) (by decide +kernel), gw_in (tb_2 174 (by decide +kernel)) (by decide +kernel), gw_in (tb_1 2 (by decide +kernel)) (by decide +kernel), gw_in (tb_2 175 (by decide +kernel)) (by decide +kernel), ⟨by decide +kernel, by decide +kernel⟩, by decide +kernel⟩
abbrev mX1_countBids : MI := (yX1_countBids, cX1_countBids, 3, (some .int))
theorem vX1_countBids : MV mX1_countBids 0 RX1 := ⟨gw_in (tb_3 39 (by decide +kernel)) (by decide +kernel), gw_in (tb_0 11 (by decide +kernel)) (by decide +kernel), gw_in (tb_1 2 (by decide +kernel)) (by decide +kernel), gw_in (tb_3 40 (by decide +kernel)) (by decide +kernel), ⟨by decide +kernel, by decide +kernel⟩, by decide +kernel⟩
abbrev mX1_placeOf : MI := (yX1_placeOf, cX1_placeOf, 2, (some .int))
theorem vX1_placeOf : MS mX1_placeOf 2 := ⟨gw_in (tb_2 24 (by decide +kernel)) (by decide +kernel), gw_in (tb_1 2 (by decide +kernel)) (by decide +kernel), gw_in (tb_2 25 (by decide +kernel)) (by decide +kernel), ⟨by decide +kernel, by decide +kernel⟩, by decide +kernel⟩
abbrev mX1_stepTowards : MI := (yX1_stepTowards, cX1_stepTowards, 1, (some .int))
theorem vX1_stepTowards : MS mX1_stepTowards 1 := ⟨gw_in (tb_2 27 (by decide +kernel)) (by decide +kernel), gw_in (tb_1 2 (by decide +kernel)) (by decide +kernel), gw_in (tb_2 28 (by decide +kernel)) (by decide +kernel), ⟨by decide +kernel, by decide +kernel⟩, by decide +kernel⟩
abbrev mX1_lossIn : MI := (yX1_lossIn, cX1_lossIn, 7, (some .int))
theorem vX1_lossIn : MV mX1_lossIn 2 RX1 := ⟨gw_in (tb_2 17 (by decide +kernel)) (by decide +kernel), gw_in (tb_2 18 (by decide +kernel)) (by decide +kernel), gw_in (tb_1 2 (by decide +kernel)) (by decide +kernel), gw_in (tb_2 19 (by decide +kernel)) (by decide +kernel), ⟨by decide +kernel, by decide +kernel⟩, by decide +kernel⟩
abbrev mX1_wakeOf : MI := (yX1_wakeOf, cX1_wakeOf, 2, (some .int))
theorem vX1_wakeOf : MS mX1_wakeOf 2 := ⟨gw_in (tb_2 30 (by decide +kernel)) (by decide +kernel), gw_in (tb_1 2 (by decide +kernel)) (by decide +kernel), gw_in (tb_2 31 (by decide +kernel)) (by decide +kernel), ⟨by decide +kernel, by decide +kernel⟩, by decide +kernel⟩
abbrev mX1_powerAfter : MI := (yX1_powerAfter, cX1_powerAfter, 5, (some .int))
theorem vX1_powerAfter : MV mX1_powerAfter 3 RX1 := ⟨gw_in (tb_2 33 (by decide +kernel)) (by decide +kernel), gw_in (tb_2 34 (by decide +kernel)) (by decide +kernel), gw_in (tb_1 2 (by decide +kernel)) (by decide +kernel), gw_in (tb_2 35 (by decide +kernel)) (by decide +kernel), ⟨by decide +kernel, by decide +kernel⟩, by decide +kernel⟩
abbrev mX1_limited : MI := (yX1_limited, cX1_limited, 4, (some .int))
theorem vX1_limited : MV mX1_limited 2 RX1 := ⟨gw_in (tb_2 39 (by decide +kernel)) (by decide +kernel), gw_in (tb_0 0 (by decide +kernel)) (by decide +kernel), gw_in (tb_1 2 (by decide +kernel)) (by decide +kernel), gw_in (tb_2 40 (by decide +kernel)) (by decide +kernel), ⟨by decide +kernel, by decide +kernel⟩, by decide +kernel⟩
abbrev mX1_outputIn : MI := (yX1_outputIn, cX1_outputIn, 4, (some .int))
theorem vX1_outputIn : MV mX1_outputIn 3 RX1 := ⟨gw_in (tb_2 13 (by decide +kernel)) (by decide +kernel), gw_in (tb_2 14 (by decide +kernel)) (by decide +kernel), gw_in (tb_1 2 (by decide +kernel)) (by decide +kernel), gw_in (tb_2 15 (by decide +kernel)) (by decide +kernel), ⟨by decide +kernel, by decide +kernel⟩, by decide +kernel⟩
abbrev mX1_sumIn : MI := (yX1_sumIn, cX1_sumIn, 5, (some .int))
theorem vX1_sumIn : MV mX1_sumIn 2 RX1 := ⟨gw_in (tb_2 9 (by decide +kernel)) (by decide +kernel), gw_in (tb_2 10 (by decide +kernel)) (by decide +kernel), gw_in (tb_1 2 (by decide +kernel)) (by decide +kernel), gw_in (tb_2 11 (by decide +kernel)) (by decide +kernel), ⟨by decide +kernel, by decide +kernel⟩, by decide +kernel⟩
abbrev mX1_sumByLines : MI := (yX1_sumByLines, cX1_sumByLines, 4, (some .int))
theorem vX1_sumByLines : MV mX1_sumByLines 0 RX1 := ⟨gw_in (tb_2 49 (by decide +kernel)) (by decide +kernel), gw_in (tb_2 50 (by decide +kernel)) (by decide +kernel), gw_in (tb_1 2 (by decide +kernel)) (by decide +kernel), gw_in (tb_2 51 (by decide +kernel)) (by decide +kernel), ⟨by decide +kernel, by decide +kernel⟩, by decide +kernel⟩
abbrev mX1_sumOfLine : MI := (yX1_sumOfLine, cX1_sumOfLine, 9, (some .int))
theorem vX1_sumOfLine : MV mX1_sumOfLine 1 RX1 := ⟨gw_in (tb_2 58 (by decide +kernel)) (by decide +kernel), gw_in (tb_0 2 (by decide +kernel)) (by decide +kernel), gw_in (tb_1 2 (by decide +kernel)) (by decide +kernel), gw_in (tb_2 59 (by decide +kernel)) (by decide +kernel), ⟨by decide +kernel, by decide +kernel⟩, by decide +kernel⟩
abbrev mX1_blowsAlongColumns : MI := (yX1_blowsAlongColumns, cX1_blowsAlongColumns, 1, (some .boolean))
theorem vX1_blowsAlongColumns : MV mX1_blowsAlongColumns 0 RX1 := ⟨gw_in (tb_2 54 (by decide +kernel)) (by decide +kernel), gw_in (tb_0 1 (by decide +kernel)) (by decide +kernel), gw_in (tb_1 2 (by decide +kernel)) (by decide +kernel), gw_in (tb_2 55 (by decide +kernel)) (by decide +kernel), ⟨by decide +kernel, by decide +kernel⟩, by decide +kernel⟩
abbrev mX1_turbineInLine : MI := (yX1_turbineInLine, cX1_turbineInLine, 3, (some .int))
theorem vX1_turbineInLine : MV mX1_turbineInLine 2 RX1 := ⟨gw_in (tb_2 62 (by decide +kernel)) (by decide +kernel), gw_in (tb_0 3 (by decide +kernel)) (by decide +kernel), gw_in (tb_1 2 (by decide +kernel)) (by decide +kernel), gw_in (tb_2 63 (by decide +kernel)) (by decide +kernel), ⟨by decide +kernel, by decide +kernel⟩, by decide +kernel⟩
abbrev mX1_turbinesAheadOf : MI := (yX1_turbinesAheadOf, cX1_turbinesAheadOf, 4, (some .int))
theorem vX1_turbinesAheadOf : MV mX1_turbinesAheadOf 1 RX1 := ⟨gw_in (tb_5 7 (by decide +kernel)) (by decide +kernel), gw_in (tb_5 8 (by decide +kernel)) (by decide +kernel), gw_in (tb_1 2 (by decide +kernel)) (by decide +kernel), gw_in (tb_5 9 (by decide +kernel)) (by decide +kernel), ⟨by decide +kernel, by decide +kernel⟩, by decide +kernel⟩
abbrev mX1_isTurbineAhead : MI := (yX1_isTurbineAhead, cX1_isTurbineAhead, 4, (some .boolean))
theorem vX1_isTurbineAhead : MV mX1_isTurbineAhead 2 RX1 := ⟨gw_in (tb_5 12 (by decide +kernel)) (by decide +kernel), gw_in (tb_0 21 (by decide +kernel)) (by decide +kernel), gw_in (tb_1 2 (by decide +kernel)) (by decide +kernel), gw_in (tb_5 13 (by decide +kernel)) (by decide +kernel), ⟨by decide +kernel, by decide +kernel⟩, by decide +kernel⟩
abbrev mX1_bidsAheadOf : MI := (yX1_bidsAheadOf, cX1_bidsAheadOf, 4, (some .int))
theorem vX1_bidsAheadOf : MV mX1_bidsAheadOf 1 RX1 := ⟨gw_in (tb_4 196 (by decide +kernel)) (by decide +kernel), gw_in (tb_4 197 (by decide +kernel)) (by decide +kernel), gw_in (tb_1 2 (by decide +kernel)) (by decide +kernel), gw_in (tb_4 198 (by decide +kernel)) (by decide +kernel), ⟨by decide +kernel, by decide +kernel⟩, by decide +kernel⟩
abbrev mX1_isBidAhead : MI := (yX1_isBidAhead, cX1_isBidAhead, 4, (some .boolean))
theorem vX1_isBidAhead : MV mX1_isBidAhead 2 RX1 := ⟨gw_in (tb_4 201 (by decide +kernel)) (by decide +kernel), gw_in (tb_0 18 (by decide +kernel)) (by decide +kernel), gw_in (tb_1 2 (by decide +kernel)) (by decide +kernel), gw_in (tb_4 202 (by decide +kernel)) (by decide +kernel), ⟨by decide +kernel, by decide +kernel⟩, by decide +kernel⟩
abbrev mX1_judge : MI := (yX1_judge, cX1_judge, 5, (some .int))
theorem vX1_judge : MV mX1_judge 4 RX1 := ⟨gw_in (tb_2 135 (by decide +kernel)) (by decide +kernel), gw_in (tb_2 136 (by decide +kernel)) (by decide +kernel), gw_in (tb_1 2 (by decide +kernel)) (by decide +kernel), gw_in (tb_2 137 (by decide +kernel)) (by decide +kernel), ⟨by decide +kernel, by decide +kernel⟩, by decide +kernel⟩
abbrev mX1_judgeAdding : MI := (yX1_judgeAdding, cX1_judgeAdding, 4, (some .int))
theorem vX1_judgeAdding : MV mX1_judgeAdding 3 RX1 := ⟨gw_in (tb_2 140 (by decide +kernel)) (by decide +kernel), gw_in (tb_0 5 (by decide +kernel)) (by decide +kernel), gw_in (tb_1 2 (by decide +kernel)) (by decide +kernel), gw_in (tb_2 141 (by decide +kernel)) (by decide +kernel), ⟨by decide +kernel, by decide +kernel⟩, by decide +kernel⟩
abbrev mX1_judgeTurbine : MI := (yX1_judgeTurbine, cX1_judgeTurbine, 5, (some .int))
theorem vX1_judgeTurbine : MV mX1_judgeTurbine 3 RX1 := ⟨gw_in (tb_2 155 (by decide +kernel)) (by decide +kernel), gw_in (tb_0 6 (by decide +kernel)) (by decide +kernel), gw_in (tb_1 2 (by decide +kernel)) (by decide +kernel), gw_in (tb_2 156 (by decide +kernel)) (by decide +kernel), ⟨by decide +kernel, by decide +kernel⟩, by decide +kernel⟩
abbrev mX1_judgeSending : MI := (yX1_judgeSending, cX1_judgeSending, 3, (some .int))
theorem vX1_judgeSending : MV mX1_judgeSending 2 RX1 := ⟨gw_in (tb_2 159 (by decide +kernel)) (by decide +kernel), gw_in (tb_0 7 (by decide +kernel)) (by decide +kernel), gw_in (tb_1 2 (by decide +kernel)) (by decide +kernel), gw_in (tb_2 160 (by decide +kernel)) (by decide +kernel), ⟨by decide +kernel, by decide +kernel⟩, by decide +kernel⟩
abbrev mX1_judgeBid : MI := (yX1_judgeBid, cX1_judgeBid, 5, (some .int))
theorem vX1_judgeBid : MV mX1_judgeBid 4 RX1 := ⟨gw_in (tb_2 170 (by decide +kernel)) (by decide +kernel), gw_in (tb_0 8 (by decide +kernel)) (by decide +kernel), gw_in (tb_1 2 (by decide +kernel)) (by decide +kernel), gw_in (tb_2 171 (by decide +kernel)) (by decide +kernel), ⟨by decide +kernel, by decide +kernel⟩, by decide +kernel⟩
abbrev mX1_detailOf : MI := (yX1_detailOf, cX1_detailOf, 4, (some .int))
theorem vX1_detailOf : MV mX1_detailOf 3 RX1 := ⟨gw_in (tb_3 30 (by decide +kernel)) (by decide +kernel), gw_in (tb_3 31 (by decide +kernel)) (by decide +kernel), gw_in (tb_1 2 (by decide +kernel)) (by decide +kernel), gw_in (tb_3 32 (by decide +kernel)) (by decide +kernel), ⟨by decide +kernel, by decide +kernel⟩, by decide +kernel⟩
abbrev mX1_carryOut : MI := (yX1_carryOut, cX1_carryOut, 5, (some .int))
theorem vX1_carryOut : MV mX1_carryOut 4 RX1 := ⟨gw_in (tb_5 177 (by decide +kernel)) (by decide +kernel), gw_in (tb_5 178 (by decide +kernel)) (by decide +kernel), gw_in (tb_1 2 (by decide +kernel)) (by decide +kernel), gw_in (tb_5 179 (by decide +kernel)) (by decide +kernel), ⟨by decide +kernel, by decide +kernel⟩, by decide +kernel⟩
abbrev mX1_add : MI := (yX1_add, cX1_add, 5, (some .int))
theorem vX1_add : MV mX1_add 3 RX1 := ⟨gw_in (tb_3 164 (by decide +kernel)) (by decide +kernel), gw_in (tb_3 165 (by decide +kernel)) (by decide +kernel), gw_in (tb_1 2 (by decide +kernel)) (by decide +kernel), gw_in (tb_3 166 (by decide +kernel)) (by decide +kernel), ⟨by decide +kernel, by decide +kernel⟩, by decide +kernel⟩
abbrev mX1_breakDown : MI := (yX1_breakDown, cX1_breakDown, 2, (some .int))
theorem vX1_breakDown : MV mX1_breakDown 1 RX1 := ⟨gw_in (tb_3 175 (by decide +kernel)) (by decide +kernel), gw_in (tb_3 176 (by decide +kernel)) (by decide +kernel), gw_in (tb_1 2 (by decide +kernel)) (by decide +kernel), gw_in (tb_3 177 (by decide +kernel)) (by decide +kernel), ⟨by decide +kernel, by decide +kernel⟩, by decide +kernel⟩
abbrev mX1_startService : MI := (yX1_startService, cX1_startService, 3, (some .int))
theorem vX1_startService : MV mX1_startService 2 RX1 := ⟨gw_in (tb_3 186 (by decide +kernel)) (by decide +kernel), gw_in (tb_3 187 (by decide +kernel)) (by decide +kernel), gw_in (tb_1 2 (by decide +kernel)) (by decide +kernel), gw_in (tb_3 188 (by decide +kernel)) (by decide +kernel), ⟨by decide +kernel, by decide +kernel⟩, by decide +kernel⟩
abbrev mX1_stopService : MI := (yX1_stopService, cX1_stopService, 3, (some .int))
theorem vX1_stopService : MV mX1_stopService 1 RX1 := ⟨gw_in (tb_3 198 (by decide +kernel)) (by decide +kernel), gw_in (tb_3 199 (by decide +kernel)) (by decide +kernel), gw_in (tb_1 2 (by decide +kernel)) (by decide +kernel), gw_in (tb_3 200 (by decide +kernel)) (by decide +kernel), ⟨by decide +kernel, by decide +kernel⟩, by decide +kernel⟩
abbrev mX1_changeLimit : MI := (yX1_changeLimit, cX1_changeLimit, 3, (some .int))
theorem vX1_changeLimit : MV mX1_changeLimit 2 RX1 := ⟨gw_in (tb_3 209 (by decide +kernel)) (by decide +kernel), gw_in (tb_3 210 (by decide +kernel)) (by decide +kernel), gw_in (tb_1 2 (by decide +kernel)) (by decide +kernel), gw_in (tb_3 211 (by decide +kernel)) (by decide +kernel), ⟨by decide +kernel, by decide +kernel⟩, by decide +kernel⟩
abbrev mX1_endLimit : MI := (yX1_endLimit, cX1_endLimit, 2, (some .int))
theorem vX1_endLimit : MV mX1_endLimit 1 RX1 := ⟨gw_in (tb_3 220 (by decide +kernel)) (by decide +kernel), gw_in (tb_3 221 (by decide +kernel)) (by decide +kernel), gw_in (tb_1 2 (by decide +kernel)) (by decide +kernel), gw_in (tb_3 222 (by decide +kernel)) (by decide +kernel), ⟨by decide +kernel, by decide +kernel⟩, by decide +kernel⟩
abbrev mX1_turnWind : MI := (yX1_turnWind, cX1_turnWind, 3, (some .int))
theorem vX1_turnWind : MV mX1_turnWind 2 RX1 := ⟨gw_in (tb_4 86 (by decide +kernel)) (by decide +kernel), gw_in (tb_4 87 (by decide +kernel)) (by decide +kernel), gw_in (tb_1 2 (by decide +kernel)) (by decide +kernel), gw_in (tb_4 88 (by decide +kernel)) (by decide +kernel), ⟨by decide +kernel, by decide +kernel⟩, by decide +kernel⟩
abbrev mX1_changeGridLimit : MI := (yX1_changeGridLimit, cX1_changeGridLimit, 3, (some .int))
theorem vX1_changeGridLimit : MV mX1_changeGridLimit 1 RX1 := ⟨gw_in (tb_4 130 (by decide +kernel)) (by decide +kernel), gw_in (tb_4 131 (by decide +kernel)) (by decide +kernel), gw_in (tb_1 2 (by decide +kernel)) (by decide +kernel), gw_in (tb_4 132 (by decide +kernel)) (by decide +kernel), ⟨by decide +kernel, by decide +kernel⟩, by decide +kernel⟩
abbrev mX1_limitToGrid : MI := (yX1_limitToGrid, cX1_limitToGrid, 6, (some .int))
theorem vX1_limitToGrid : MV mX1_limitToGrid 0 RX1 := ⟨gw_in (tb_3 78 (by decide +kernel)) (by decide +kernel), gw_in (tb_3 79 (by decide +kernel)) (by decide +kernel), gw_in (tb_1 2 (by decide +kernel)) (by decide +kernel), gw_in (tb_3 80 (by decide +kernel)) (by decide +kernel), ⟨by decide +kernel, by decide +kernel⟩, by decide +kernel⟩
abbrev mX1_turbineWithMostOutput : MI := (yX1_turbineWithMostOutput, cX1_turbineWithMostOutput, 5, (some .int))
theorem vX1_turbineWithMostOutput : MV mX1_turbineWithMostOutput 0 RX1 := ⟨gw_in (tb_3 84 (by decide +kernel)) (by decide +kernel), gw_in (tb_0 14 (by decide +kernel)) (by decide +kernel), gw_in (tb_1 2 (by decide +kernel)) (by decide +kernel), gw_in (tb_3 85 (by decide +kernel)) (by decide +kernel), ⟨by decide +kernel, by decide +kernel⟩, by decide +kernel⟩
abbrev mX1_endAllLimits : MI := (yX1_endAllLimits, cX1_endAllLimits, 3, (some .int))
theorem vX1_endAllLimits : MV mX1_endAllLimits 0 RX1 := ⟨gw_in (tb_3 97 (by decide +kernel)) (by decide +kernel), gw_in (tb_3 98 (by decide +kernel)) (by decide +kernel), gw_in (tb_1 2 (by decide +kernel)) (by decide +kernel), gw_in (tb_3 99 (by decide +kernel)) (by decide +kernel), ⟨by decide +kernel, by decide +kernel⟩, by decide +kernel⟩
abbrev mX1_addBid : MI := (yX1_addBid, cX1_addBid, 4, (some .int))
theorem vX1_addBid : MV mX1_addBid 3 RX1 := ⟨gw_in (tb_4 141 (by decide +kernel)) (by decide +kernel), gw_in (tb_4 142 (by decide +kernel)) (by decide +kernel), gw_in (tb_1 2 (by decide +kernel)) (by decide +kernel), gw_in (tb_4 143 (by decide +kernel)) (by decide +kernel), ⟨by decide +kernel, by decide +kernel⟩, by decide +kernel⟩
abbrev mX1_removeBid : MI := (yX1_removeBid, cX1_removeBid, 3, (some .int))
theorem vX1_removeBid : MV mX1_removeBid 1 RX1 := ⟨gw_in (tb_4 152 (by decide +kernel)) (by decide +kernel), gw_in (tb_4 153 (by decide +kernel)) (by decide +kernel), gw_in (tb_1 2 (by decide +kernel)) (by decide +kernel), gw_in (tb_4 154 (by decide +kernel)) (by decide +kernel), ⟨by decide +kernel, by decide +kernel⟩, by decide +kernel⟩
abbrev mX1_pass : MI := (yX1_pass, cX1_pass, 5, (some .int))
theorem vX1_pass : MV mX1_pass 1 RX1 := ⟨gw_in (tb_4 212 (by decide +kernel)) (by decide +kernel), gw_in (tb_4 213 (by decide +kernel)) (by decide +kernel), gw_in (tb_1 2 (by decide +kernel)) (by decide +kernel), gw_in (tb_4 214 (by decide +kernel)) (by decide +kernel), ⟨by decide +kernel, by decide +kernel⟩, by decide +kernel⟩
abbrev mX1_account : MI := (yX1_account, cX1_account, 7, none)
theorem vX1_account : MV mX1_account 1 RX1 := ⟨gw_in (tb_4 217 (by decide +kernel)) (by decide +kernel), gw_in (tb_0 19 (by decide +kernel)) (by decide +kernel), gw_in (tb_1 2 (by decide +kernel)) (by decide +kernel), gw_in (tb_4 218 (by decide +kernel)) (by decide +kernel), ⟨by decide +kernel, by decide +kernel⟩, by decide +kernel⟩
abbrev mX1_workOnServices : MI := (yX1_workOnServices, cX1_workOnServices, 3, none)
theorem vX1_workOnServices : MV mX1_workOnServices 0 RX1 := ⟨gw_in (tb_4 221 (by decide +kernel)) (by decide +kernel), gw_in (tb_0 20 (by decide +kernel)) (by decide +kernel), gw_in (tb_1 2 (by decide +kernel)) (by decide +kernel), gw_in (tb_4 222 (by decide +kernel)) (by decide +kernel), ⟨by decide +kernel, by decide +kernel⟩, by decide +kernel⟩
abbrev mX2_init : MI := (yX2_init, cX2_init, 2, none)
theorem vX2_init : Cond.instanceMethod yX2_init ∈ gw ∧ Cond.initialized yX2_init.cls ∈ gw ∧ Cond.code yX2_init cX2_init 2 none ∈ gw := ⟨gw_in (tb_1 115 (by decide +kernel)) (by decide +kernel), gw_in (tb_1 3 (by decide +kernel)) (by decide +kernel), gw_in (tb_1 116 (by decide +kernel)) (by decide +kernel)⟩
abbrev mX2_keep : MI := (yX2_keep, cX2_keep, 3, none)
theorem vX2_keep : MV mX2_keep 1 RX2 := ⟨gw_in (tb_3 62 (by decide +kernel)) (by decide +kernel), gw_in (tb_3 63 (by decide +kernel)) (by decide +kernel), gw_in (tb_1 3 (by decide +kernel)) (by decide +kernel), gw_in (tb_3 64 (by decide +kernel)) (by decide +kernel), ⟨by decide +kernel, by decide +kernel⟩, by decide +kernel⟩
abbrev mX2_takeBack : MI := (yX2_takeBack, cX2_takeBack, 4, none)
theorem vX2_takeBack : MV mX2_takeBack 1 RX2 := ⟨gw_in (tb_5 236 (by decide +kernel)) (by decide +kernel), gw_in (tb_5 237 (by decide +kernel)) (by decide +kernel), gw_in (tb_1 3 (by decide +kernel)) (by decide +kernel), gw_in (tb_5 238 (by decide +kernel)) (by decide +kernel), ⟨by decide +kernel, by decide +kernel⟩, by decide +kernel⟩
abbrev mX2_forget : MI := (yX2_forget, cX2_forget, 1, none)
theorem vX2_forget : MV mX2_forget 0 RX2 := ⟨gw_in (tb_6 8 (by decide +kernel)) (by decide +kernel), gw_in (tb_6 9 (by decide +kernel)) (by decide +kernel), gw_in (tb_1 3 (by decide +kernel)) (by decide +kernel), gw_in (tb_6 10 (by decide +kernel)) (by decide +kernel), ⟨by decide +kernel, by decide +kernel⟩, by decide +kernel⟩
abbrev mX2_farmAt : MI := (yX2_farmAt, cX2_farmAt, 2, (some (.object "WindFarmDispatcher$Farm")))
theorem vX2_farmAt : MV mX2_farmAt 1 RX2 := ⟨gw_in (tb_3 67 (by decide +kernel)) (by decide +kernel), gw_in (tb_0 13 (by decide +kernel)) (by decide +kernel), gw_in (tb_1 3 (by decide +kernel)) (by decide +kernel), gw_in (tb_3 68 (by decide +kernel)) (by decide +kernel), ⟨by decide +kernel, by decide +kernel⟩, by decide +kernel⟩
abbrev mX3_init : MI := (yX3_init, cX3_init, 1, none)
theorem vX3_init : Cond.instanceMethod yX3_init ∈ gw ∧ Cond.initialized yX3_init.cls ∈ gw ∧ Cond.code yX3_init cX3_init 1 none ∈ gw := ⟨gw_in (tb_1 141 (by decide +kernel)) (by decide +kernel), gw_in (tb_1 5 (by decide +kernel)) (by decide +kernel), gw_in (tb_1 142 (by decide +kernel)) (by decide +kernel)⟩
abbrev mX3_clear : MI := (yX3_clear, cX3_clear, 1, none)
theorem vX3_clear : MV mX3_clear 0 RX3 := ⟨gw_in (tb_5 55 (by decide +kernel)) (by decide +kernel), gw_in (tb_5 56 (by decide +kernel)) (by decide +kernel), gw_in (tb_1 5 (by decide +kernel)) (by decide +kernel), gw_in (tb_5 57 (by decide +kernel)) (by decide +kernel), ⟨by decide +kernel, by decide +kernel⟩, by decide +kernel⟩
abbrev mX3_add : MI := (yX3_add, cX3_add, 2, none)
theorem vX3_add : MV mX3_add 1 RX3 := ⟨gw_in (tb_5 63 (by decide +kernel)) (by decide +kernel), gw_in (tb_5 64 (by decide +kernel)) (by decide +kernel), gw_in (tb_1 5 (by decide +kernel)) (by decide +kernel), gw_in (tb_5 65 (by decide +kernel)) (by decide +kernel), ⟨by decide +kernel, by decide +kernel⟩, by decide +kernel⟩
abbrev mX3_addNumber : MI := (yX3_addNumber, cX3_addNumber, 2, none)
theorem vX3_addNumber : MV mX3_addNumber 1 RX3 := ⟨gw_in (tb_5 59 (by decide +kernel)) (by decide +kernel), gw_in (tb_5 60 (by decide +kernel)) (by decide +kernel), gw_in (tb_1 5 (by decide +kernel)) (by decide +kernel), gw_in (tb_5 61 (by decide +kernel)) (by decide +kernel), ⟨by decide +kernel, by decide +kernel⟩, by decide +kernel⟩
abbrev mX3_signAt : MI := (yX3_signAt, cX3_signAt, 2, (some .char))
theorem vX3_signAt : MV mX3_signAt 1 RX3 := ⟨gw_in (tb_5 80 (by decide +kernel)) (by decide +kernel), gw_in (tb_5 81 (by decide +kernel)) (by decide +kernel), gw_in (tb_1 5 (by decide +kernel)) (by decide +kernel), gw_in (tb_5 82 (by decide +kernel)) (by decide +kernel), ⟨by decide +kernel, by decide +kernel⟩, by decide +kernel⟩
abbrev mX4_init : MI := (yX4_init, cX4_init, 1, none)
theorem vX4_init : Cond.instanceMethod yX4_init ∈ gw ∧ Cond.initialized yX4_init.cls ∈ gw ∧ Cond.code yX4_init cX4_init 1 none ∈ gw := ⟨gw_in (tb_1 25 (by decide +kernel)) (by decide +kernel), gw_in (tb_1 1 (by decide +kernel)) (by decide +kernel), gw_in (tb_1 26 (by decide +kernel)) (by decide +kernel)⟩
abbrev mX4_addTurbine : MI := (yX4_addTurbine, cX4_addTurbine, 4, (some .int))
theorem vX4_addTurbine : MV mX4_addTurbine 3 RX4 := ⟨gw_in (tb_3 160 (by decide +kernel)) (by decide +kernel), gw_in (tb_3 161 (by decide +kernel)) (by decide +kernel), gw_in (tb_1 1 (by decide +kernel)) (by decide +kernel), gw_in (tb_3 162 (by decide +kernel)) (by decide +kernel), ⟨by decide +kernel, by decide +kernel⟩, by decide +kernel⟩
abbrev mX4_fail : MI := (yX4_fail, cX4_fail, 2, (some .int))
theorem vX4_fail : MV mX4_fail 1 RX4 := ⟨gw_in (tb_3 171 (by decide +kernel)) (by decide +kernel), gw_in (tb_3 172 (by decide +kernel)) (by decide +kernel), gw_in (tb_1 1 (by decide +kernel)) (by decide +kernel), gw_in (tb_3 173 (by decide +kernel)) (by decide +kernel), ⟨by decide +kernel, by decide +kernel⟩, by decide +kernel⟩
abbrev mX4_sendCrew : MI := (yX4_sendCrew, cX4_sendCrew, 3, (some .int))
theorem vX4_sendCrew : MV mX4_sendCrew 2 RX4 := ⟨gw_in (tb_3 182 (by decide +kernel)) (by decide +kernel), gw_in (tb_3 183 (by decide +kernel)) (by decide +kernel), gw_in (tb_1 1 (by decide +kernel)) (by decide +kernel), gw_in (tb_3 184 (by decide +kernel)) (by decide +kernel), ⟨by decide +kernel, by decide +kernel⟩, by decide +kernel⟩
abbrev mX4_recallCrew : MI := (yX4_recallCrew, cX4_recallCrew, 2, (some .int))
theorem vX4_recallCrew : MV mX4_recallCrew 1 RX4 := ⟨gw_in (tb_3 194 (by decide +kernel)) (by decide +kernel), gw_in (tb_3 195 (by decide +kernel)) (by decide +kernel), gw_in (tb_1 1 (by decide +kernel)) (by decide +kernel), gw_in (tb_3 196 (by decide +kernel)) (by decide +kernel), ⟨by decide +kernel, by decide +kernel⟩, by decide +kernel⟩
abbrev mX4_curtail : MI := (yX4_curtail, cX4_curtail, 3, (some .int))
theorem vX4_curtail : MV mX4_curtail 2 RX4 := ⟨gw_in (tb_3 205 (by decide +kernel)) (by decide +kernel), gw_in (tb_3 206 (by decide +kernel)) (by decide +kernel), gw_in (tb_1 1 (by decide +kernel)) (by decide +kernel), gw_in (tb_3 207 (by decide +kernel)) (by decide +kernel), ⟨by decide +kernel, by decide +kernel⟩, by decide +kernel⟩
abbrev mX4_release : MI := (yX4_release, cX4_release, 2, (some .int))
theorem vX4_release : MV mX4_release 1 RX4 := ⟨gw_in (tb_3 216 (by decide +kernel)) (by decide +kernel), gw_in (tb_3 217 (by decide +kernel)) (by decide +kernel), gw_in (tb_1 1 (by decide +kernel)) (by decide +kernel), gw_in (tb_3 218 (by decide +kernel)) (by decide +kernel), ⟨by decide +kernel, by decide +kernel⟩, by decide +kernel⟩
abbrev mX4_turbineCount : MI := (yX4_turbineCount, cX4_turbineCount, 1, (some .int))
theorem vX4_turbineCount : MV mX4_turbineCount 0 RX4 := ⟨gw_in (tb_1 210 (by decide +kernel)) (by decide +kernel), gw_in (tb_1 211 (by decide +kernel)) (by decide +kernel), gw_in (tb_1 1 (by decide +kernel)) (by decide +kernel), gw_in (tb_1 212 (by decide +kernel)) (by decide +kernel), ⟨by decide +kernel, by decide +kernel⟩, by decide +kernel⟩
abbrev mX4_turbineAt : MI := (yX4_turbineAt, cX4_turbineAt, 4, (some .int))
theorem vX4_turbineAt : MV mX4_turbineAt 2 RX4 := ⟨gw_in (tb_3 229 (by decide +kernel)) (by decide +kernel), gw_in (tb_3 230 (by decide +kernel)) (by decide +kernel), gw_in (tb_1 1 (by decide +kernel)) (by decide +kernel), gw_in (tb_3 231 (by decide +kernel)) (by decide +kernel), ⟨by decide +kernel, by decide +kernel⟩, by decide +kernel⟩
abbrev mX4_rowOf : MI := (yX4_rowOf, cX4_rowOf, 2, (some .int))
theorem vX4_rowOf : MV mX4_rowOf 1 RX4 := ⟨gw_in (tb_4 15 (by decide +kernel)) (by decide +kernel), gw_in (tb_4 16 (by decide +kernel)) (by decide +kernel), gw_in (tb_1 1 (by decide +kernel)) (by decide +kernel), gw_in (tb_4 17 (by decide +kernel)) (by decide +kernel), ⟨by decide +kernel, by decide +kernel⟩, by decide +kernel⟩
abbrev mX4_columnOf : MI := (yX4_columnOf, cX4_columnOf, 2, (some .int))
theorem vX4_columnOf : MV mX4_columnOf 1 RX4 := ⟨gw_in (tb_4 29 (by decide +kernel)) (by decide +kernel), gw_in (tb_4 30 (by decide +kernel)) (by decide +kernel), gw_in (tb_1 1 (by decide +kernel)) (by decide +kernel), gw_in (tb_4 31 (by decide +kernel)) (by decide +kernel), ⟨by decide +kernel, by decide +kernel⟩, by decide +kernel⟩
abbrev mX4_ratedPower : MI := (yX4_ratedPower, cX4_ratedPower, 2, (some .int))
theorem vX4_ratedPower : MV mX4_ratedPower 1 RX4 := ⟨gw_in (tb_4 36 (by decide +kernel)) (by decide +kernel), gw_in (tb_4 37 (by decide +kernel)) (by decide +kernel), gw_in (tb_1 1 (by decide +kernel)) (by decide +kernel), gw_in (tb_4 38 (by decide +kernel)) (by decide +kernel), ⟨by decide +kernel, by decide +kernel⟩, by decide +kernel⟩
abbrev mX4_isRunning : MI := (yX4_isRunning, cX4_isRunning, 2, (some .boolean))
theorem vX4_isRunning : MV mX4_isRunning 1 RX4 := ⟨gw_in (tb_4 43 (by decide +kernel)) (by decide +kernel), gw_in (tb_4 44 (by decide +kernel)) (by decide +kernel), gw_in (tb_1 1 (by decide +kernel)) (by decide +kernel), gw_in (tb_4 45 (by decide +kernel)) (by decide +kernel), ⟨by decide +kernel, by decide +kernel⟩, by decide +kernel⟩
abbrev mX4_isFailed : MI := (yX4_isFailed, cX4_isFailed, 2, (some .boolean))
theorem vX4_isFailed : MV mX4_isFailed 1 RX4 := ⟨gw_in (tb_4 51 (by decide +kernel)) (by decide +kernel), gw_in (tb_4 52 (by decide +kernel)) (by decide +kernel), gw_in (tb_1 1 (by decide +kernel)) (by decide +kernel), gw_in (tb_4 53 (by decide +kernel)) (by decide +kernel), ⟨by decide +kernel, by decide +kernel⟩, by decide +kernel⟩
abbrev mX4_isInService : MI := (yX4_isInService, cX4_isInService, 2, (some .boolean))
theorem vX4_isInService : MV mX4_isInService 1 RX4 := ⟨gw_in (tb_4 58 (by decide +kernel)) (by decide +kernel), gw_in (tb_4 59 (by decide +kernel)) (by decide +kernel), gw_in (tb_1 1 (by decide +kernel)) (by decide +kernel), gw_in (tb_4 60 (by decide +kernel)) (by decide +kernel), ⟨by decide +kernel, by decide +kernel⟩, by decide +kernel⟩
abbrev mX4_limitOf : MI := (yX4_limitOf, cX4_limitOf, 2, (some .int))
theorem vX4_limitOf : MV mX4_limitOf 1 RX4 := ⟨gw_in (tb_4 65 (by decide +kernel)) (by decide +kernel), gw_in (tb_4 66 (by decide +kernel)) (by decide +kernel), gw_in (tb_1 1 (by decide +kernel)) (by decide +kernel), gw_in (tb_4 67 (by decide +kernel)) (by decide +kernel), ⟨by decide +kernel, by decide +kernel⟩, by decide +kernel⟩
abbrev mX4_serviceHoursLeft : MI := (yX4_serviceHoursLeft, cX4_serviceHoursLeft, 2, (some .int))
theorem vX4_serviceHoursLeft : MV mX4_serviceHoursLeft 1 RX4 := ⟨gw_in (tb_4 74 (by decide +kernel)) (by decide +kernel), gw_in (tb_4 75 (by decide +kernel)) (by decide +kernel), gw_in (tb_1 1 (by decide +kernel)) (by decide +kernel), gw_in (tb_4 76 (by decide +kernel)) (by decide +kernel), ⟨by decide +kernel, by decide +kernel⟩, by decide +kernel⟩
abbrev mX4_freeCrews : MI := (yX4_freeCrews, cX4_freeCrews, 1, (some .int))
theorem vX4_freeCrews : MV mX4_freeCrews 0 RX4 := ⟨gw_in (tb_1 214 (by decide +kernel)) (by decide +kernel), gw_in (tb_1 215 (by decide +kernel)) (by decide +kernel), gw_in (tb_1 1 (by decide +kernel)) (by decide +kernel), gw_in (tb_1 216 (by decide +kernel)) (by decide +kernel), ⟨by decide +kernel, by decide +kernel⟩, by decide +kernel⟩
abbrev mX4_setWind : MI := (yX4_setWind, cX4_setWind, 3, (some .int))
theorem vX4_setWind : MV mX4_setWind 2 RX4 := ⟨gw_in (tb_4 82 (by decide +kernel)) (by decide +kernel), gw_in (tb_4 83 (by decide +kernel)) (by decide +kernel), gw_in (tb_1 1 (by decide +kernel)) (by decide +kernel), gw_in (tb_4 84 (by decide +kernel)) (by decide +kernel), ⟨by decide +kernel, by decide +kernel⟩, by decide +kernel⟩
abbrev mX4_windDirection : MI := (yX4_windDirection, cX4_windDirection, 1, (some .char))
theorem vX4_windDirection : MV mX4_windDirection 0 RX4 := ⟨gw_in (tb_1 230 (by decide +kernel)) (by decide +kernel), gw_in (tb_1 231 (by decide +kernel)) (by decide +kernel), gw_in (tb_1 1 (by decide +kernel)) (by decide +kernel), gw_in (tb_1 232 (by decide +kernel)) (by decide +kernel), ⟨by decide +kernel, by decide +kernel⟩, by decide +kernel⟩
abbrev mX4_windSpeed : MI := (yX4_windSpeed, cX4_windSpeed, 1, (some .int))
theorem vX4_windSpeed : MV mX4_windSpeed 0 RX4 := ⟨gw_in (tb_1 234 (by decide +kernel)) (by decide +kernel), gw_in (tb_1 235 (by decide +kernel)) (by decide +kernel), gw_in (tb_1 1 (by decide +kernel)) (by decide +kernel), gw_in (tb_1 236 (by decide +kernel)) (by decide +kernel), ⟨by decide +kernel, by decide +kernel⟩, by decide +kernel⟩
abbrev mX4_powerFactor : MI := (yX4_powerFactor, cX4_powerFactor, 1, (some .int))
theorem vX4_powerFactor : MV mX4_powerFactor 0 RX4 := ⟨gw_in (tb_1 238 (by decide +kernel)) (by decide +kernel), gw_in (tb_1 239 (by decide +kernel)) (by decide +kernel), gw_in (tb_1 1 (by decide +kernel)) (by decide +kernel), gw_in (tb_2 0 (by decide +kernel)) (by decide +kernel), ⟨by decide +kernel, by decide +kernel⟩, by decide +kernel⟩
abbrev mX4_wakeLoss : MI := (yX4_wakeLoss, cX4_wakeLoss, 2, (some .int))
theorem vX4_wakeLoss : MV mX4_wakeLoss 1 RX4 := ⟨gw_in (tb_4 93 (by decide +kernel)) (by decide +kernel), gw_in (tb_4 94 (by decide +kernel)) (by decide +kernel), gw_in (tb_1 1 (by decide +kernel)) (by decide +kernel), gw_in (tb_4 95 (by decide +kernel)) (by decide +kernel), ⟨by decide +kernel, by decide +kernel⟩, by decide +kernel⟩
abbrev mX4_availablePower : MI := (yX4_availablePower, cX4_availablePower, 2, (some .int))
theorem vX4_availablePower : MV mX4_availablePower 1 RX4 := ⟨gw_in (tb_4 101 (by decide +kernel)) (by decide +kernel), gw_in (tb_4 102 (by decide +kernel)) (by decide +kernel), gw_in (tb_1 1 (by decide +kernel)) (by decide +kernel), gw_in (tb_4 103 (by decide +kernel)) (by decide +kernel), ⟨by decide +kernel, by decide +kernel⟩, by decide +kernel⟩
abbrev mX4_outputOf : MI := (yX4_outputOf, cX4_outputOf, 2, (some .int))
theorem vX4_outputOf : MV mX4_outputOf 1 RX4 := ⟨gw_in (tb_4 109 (by decide +kernel)) (by decide +kernel), gw_in (tb_4 110 (by decide +kernel)) (by decide +kernel), gw_in (tb_1 1 (by decide +kernel)) (by decide +kernel), gw_in (tb_4 111 (by decide +kernel)) (by decide +kernel), ⟨by decide +kernel, by decide +kernel⟩, by decide +kernel⟩
abbrev mX4_totalOutput : MI := (yX4_totalOutput, cX4_totalOutput, 1, (some .int))
theorem vX4_totalOutput : MV mX4_totalOutput 0 RX4 := ⟨gw_in (tb_2 5 (by decide +kernel)) (by decide +kernel), gw_in (tb_2 6 (by decide +kernel)) (by decide +kernel), gw_in (tb_1 1 (by decide +kernel)) (by decide +kernel), gw_in (tb_2 7 (by decide +kernel)) (by decide +kernel), ⟨by decide +kernel, by decide +kernel⟩, by decide +kernel⟩
abbrev mX4_totalOutputByLines : MI := (yX4_totalOutputByLines, cX4_totalOutputByLines, 1, (some .int))
theorem vX4_totalOutputByLines : MV mX4_totalOutputByLines 0 RX4 := ⟨gw_in (tb_2 45 (by decide +kernel)) (by decide +kernel), gw_in (tb_2 46 (by decide +kernel)) (by decide +kernel), gw_in (tb_1 1 (by decide +kernel)) (by decide +kernel), gw_in (tb_2 47 (by decide +kernel)) (by decide +kernel), ⟨by decide +kernel, by decide +kernel⟩, by decide +kernel⟩
abbrev mX4_outputWith : MI := (yX4_outputWith, cX4_outputWith, 3, (some .int))
theorem vX4_outputWith : MV mX4_outputWith 2 RX4 := ⟨gw_in (tb_4 117 (by decide +kernel)) (by decide +kernel), gw_in (tb_4 118 (by decide +kernel)) (by decide +kernel), gw_in (tb_1 1 (by decide +kernel)) (by decide +kernel), gw_in (tb_4 119 (by decide +kernel)) (by decide +kernel), ⟨by decide +kernel, by decide +kernel⟩, by decide +kernel⟩
abbrev mX4_bestDirection : MI := (yX4_bestDirection, cX4_bestDirection, 6, (some .char))
theorem vX4_bestDirection : MV mX4_bestDirection 0 RX4 := ⟨gw_in (tb_2 69 (by decide +kernel)) (by decide +kernel), gw_in (tb_2 70 (by decide +kernel)) (by decide +kernel), gw_in (tb_1 1 (by decide +kernel)) (by decide +kernel), gw_in (tb_2 71 (by decide +kernel)) (by decide +kernel), ⟨by decide +kernel, by decide +kernel⟩, by decide +kernel⟩
abbrev mX4_setGridLimit : MI := (yX4_setGridLimit, cX4_setGridLimit, 2, (some .int))
theorem vX4_setGridLimit : MV mX4_setGridLimit 1 RX4 := ⟨gw_in (tb_4 126 (by decide +kernel)) (by decide +kernel), gw_in (tb_4 127 (by decide +kernel)) (by decide +kernel), gw_in (tb_1 1 (by decide +kernel)) (by decide +kernel), gw_in (tb_4 128 (by decide +kernel)) (by decide +kernel), ⟨by decide +kernel, by decide +kernel⟩, by decide +kernel⟩
abbrev mX4_gridLimit : MI := (yX4_gridLimit, cX4_gridLimit, 1, (some .int))
theorem vX4_gridLimit : MV mX4_gridLimit 0 RX4 := ⟨gw_in (tb_2 123 (by decide +kernel)) (by decide +kernel), gw_in (tb_2 124 (by decide +kernel)) (by decide +kernel), gw_in (tb_1 1 (by decide +kernel)) (by decide +kernel), gw_in (tb_2 125 (by decide +kernel)) (by decide +kernel), ⟨by decide +kernel, by decide +kernel⟩, by decide +kernel⟩
abbrev mX4_dispatch : MI := (yX4_dispatch, cX4_dispatch, 1, (some .int))
theorem vX4_dispatch : MV mX4_dispatch 0 RX4 := ⟨gw_in (tb_2 127 (by decide +kernel)) (by decide +kernel), gw_in (tb_2 128 (by decide +kernel)) (by decide +kernel), gw_in (tb_1 1 (by decide +kernel)) (by decide +kernel), gw_in (tb_2 129 (by decide +kernel)) (by decide +kernel), ⟨by decide +kernel, by decide +kernel⟩, by decide +kernel⟩
abbrev mX4_releaseAll : MI := (yX4_releaseAll, cX4_releaseAll, 1, (some .int))
theorem vX4_releaseAll : MV mX4_releaseAll 0 RX4 := ⟨gw_in (tb_3 93 (by decide +kernel)) (by decide +kernel), gw_in (tb_3 94 (by decide +kernel)) (by decide +kernel), gw_in (tb_1 1 (by decide +kernel)) (by decide +kernel), gw_in (tb_3 95 (by decide +kernel)) (by decide +kernel), ⟨by decide +kernel, by decide +kernel⟩, by decide +kernel⟩
abbrev mX4_placeBid : MI := (yX4_placeBid, cX4_placeBid, 4, (some .int))
theorem vX4_placeBid : MV mX4_placeBid 3 RX4 := ⟨gw_in (tb_4 137 (by decide +kernel)) (by decide +kernel), gw_in (tb_4 138 (by decide +kernel)) (by decide +kernel), gw_in (tb_1 1 (by decide +kernel)) (by decide +kernel), gw_in (tb_4 139 (by decide +kernel)) (by decide +kernel), ⟨by decide +kernel, by decide +kernel⟩, by decide +kernel⟩
abbrev mX4_withdrawBid : MI := (yX4_withdrawBid, cX4_withdrawBid, 2, (some .int))
theorem vX4_withdrawBid : MV mX4_withdrawBid 1 RX4 := ⟨gw_in (tb_4 148 (by decide +kernel)) (by decide +kernel), gw_in (tb_4 149 (by decide +kernel)) (by decide +kernel), gw_in (tb_1 1 (by decide +kernel)) (by decide +kernel), gw_in (tb_4 150 (by decide +kernel)) (by decide +kernel), ⟨by decide +kernel, by decide +kernel⟩, by decide +kernel⟩
abbrev mX4_hasBid : MI := (yX4_hasBid, cX4_hasBid, 2, (some .boolean))
theorem vX4_hasBid : MV mX4_hasBid 1 RX4 := ⟨gw_in (tb_4 159 (by decide +kernel)) (by decide +kernel), gw_in (tb_4 160 (by decide +kernel)) (by decide +kernel), gw_in (tb_1 1 (by decide +kernel)) (by decide +kernel), gw_in (tb_4 161 (by decide +kernel)) (by decide +kernel), ⟨by decide +kernel, by decide +kernel⟩, by decide +kernel⟩
abbrev mX4_bidPrice : MI := (yX4_bidPrice, cX4_bidPrice, 2, (some .int))
theorem vX4_bidPrice : MV mX4_bidPrice 1 RX4 := ⟨gw_in (tb_4 173 (by decide +kernel)) (by decide +kernel), gw_in (tb_4 174 (by decide +kernel)) (by decide +kernel), gw_in (tb_1 1 (by decide +kernel)) (by decide +kernel), gw_in (tb_4 175 (by decide +kernel)) (by decide +kernel), ⟨by decide +kernel, by decide +kernel⟩, by decide +kernel⟩
abbrev mX4_bidQuantity : MI := (yX4_bidQuantity, cX4_bidQuantity, 2, (some .int))
theorem vX4_bidQuantity : MV mX4_bidQuantity 1 RX4 := ⟨gw_in (tb_4 185 (by decide +kernel)) (by decide +kernel), gw_in (tb_4 186 (by decide +kernel)) (by decide +kernel), gw_in (tb_1 1 (by decide +kernel)) (by decide +kernel), gw_in (tb_4 187 (by decide +kernel)) (by decide +kernel), ⟨by decide +kernel, by decide +kernel⟩, by decide +kernel⟩
abbrev mX4_bidByPrice : MI := (yX4_bidByPrice, cX4_bidByPrice, 3, (some .int))
theorem vX4_bidByPrice : MV mX4_bidByPrice 1 RX4 := ⟨gw_in (tb_4 192 (by decide +kernel)) (by decide +kernel), gw_in (tb_4 193 (by decide +kernel)) (by decide +kernel), gw_in (tb_1 1 (by decide +kernel)) (by decide +kernel), gw_in (tb_4 194 (by decide +kernel)) (by decide +kernel), ⟨by decide +kernel, by decide +kernel⟩, by decide +kernel⟩
abbrev mX4_passHours : MI := (yX4_passHours, cX4_passHours, 2, (some .int))
theorem vX4_passHours : MV mX4_passHours 1 RX4 := ⟨gw_in (tb_4 208 (by decide +kernel)) (by decide +kernel), gw_in (tb_4 209 (by decide +kernel)) (by decide +kernel), gw_in (tb_1 1 (by decide +kernel)) (by decide +kernel), gw_in (tb_4 210 (by decide +kernel)) (by decide +kernel), ⟨by decide +kernel, by decide +kernel⟩, by decide +kernel⟩
abbrev mX4_time : MI := (yX4_time, cX4_time, 1, (some .int))
theorem vX4_time : MV mX4_time 0 RX4 := ⟨gw_in (tb_3 101 (by decide +kernel)) (by decide +kernel), gw_in (tb_3 102 (by decide +kernel)) (by decide +kernel), gw_in (tb_1 1 (by decide +kernel)) (by decide +kernel), gw_in (tb_3 103 (by decide +kernel)) (by decide +kernel), ⟨by decide +kernel, by decide +kernel⟩, by decide +kernel⟩
abbrev mX4_incomeWithin : MI := (yX4_incomeWithin, cX4_incomeWithin, 2, (some .int))
theorem vX4_incomeWithin : MV mX4_incomeWithin 1 RX4 := ⟨gw_in (tb_4 227 (by decide +kernel)) (by decide +kernel), gw_in (tb_4 228 (by decide +kernel)) (by decide +kernel), gw_in (tb_1 1 (by decide +kernel)) (by decide +kernel), gw_in (tb_4 229 (by decide +kernel)) (by decide +kernel), ⟨by decide +kernel, by decide +kernel⟩, by decide +kernel⟩
abbrev mX4_hoursToBid : MI := (yX4_hoursToBid, cX4_hoursToBid, 2, (some .int))
theorem vX4_hoursToBid : MV mX4_hoursToBid 0 RX4 := ⟨gw_in (tb_4 235 (by decide +kernel)) (by decide +kernel), gw_in (tb_4 236 (by decide +kernel)) (by decide +kernel), gw_in (tb_1 1 (by decide +kernel)) (by decide +kernel), gw_in (tb_4 237 (by decide +kernel)) (by decide +kernel), ⟨by decide +kernel, by decide +kernel⟩, by decide +kernel⟩
abbrev mX4_energyMade : MI := (yX4_energyMade, cX4_energyMade, 1, (some .long))
theorem vX4_energyMade : MV mX4_energyMade 0 RX4 := ⟨gw_in (tb_3 105 (by decide +kernel)) (by decide +kernel), gw_in (tb_3 106 (by decide +kernel)) (by decide +kernel), gw_in (tb_1 1 (by decide +kernel)) (by decide +kernel), gw_in (tb_3 107 (by decide +kernel)) (by decide +kernel), ⟨by decide +kernel, by decide +kernel⟩, by decide +kernel⟩
abbrev mX4_energyLost : MI := (yX4_energyLost, cX4_energyLost, 1, (some .long))
theorem vX4_energyLost : MV mX4_energyLost 0 RX4 := ⟨gw_in (tb_3 109 (by decide +kernel)) (by decide +kernel), gw_in (tb_3 110 (by decide +kernel)) (by decide +kernel), gw_in (tb_1 1 (by decide +kernel)) (by decide +kernel), gw_in (tb_3 111 (by decide +kernel)) (by decide +kernel), ⟨by decide +kernel, by decide +kernel⟩, by decide +kernel⟩
abbrev mX4_energySold : MI := (yX4_energySold, cX4_energySold, 1, (some .long))
theorem vX4_energySold : MV mX4_energySold 0 RX4 := ⟨gw_in (tb_3 113 (by decide +kernel)) (by decide +kernel), gw_in (tb_3 114 (by decide +kernel)) (by decide +kernel), gw_in (tb_1 1 (by decide +kernel)) (by decide +kernel), gw_in (tb_3 115 (by decide +kernel)) (by decide +kernel), ⟨by decide +kernel, by decide +kernel⟩, by decide +kernel⟩
abbrev mX4_energySpilled : MI := (yX4_energySpilled, cX4_energySpilled, 1, (some .long))
theorem vX4_energySpilled : MV mX4_energySpilled 0 RX4 := ⟨gw_in (tb_3 117 (by decide +kernel)) (by decide +kernel), gw_in (tb_3 118 (by decide +kernel)) (by decide +kernel), gw_in (tb_1 1 (by decide +kernel)) (by decide +kernel), gw_in (tb_3 119 (by decide +kernel)) (by decide +kernel), ⟨by decide +kernel, by decide +kernel⟩, by decide +kernel⟩
abbrev mX4_coins : MI := (yX4_coins, cX4_coins, 1, (some .long))
theorem vX4_coins : MV mX4_coins 0 RX4 := ⟨gw_in (tb_3 121 (by decide +kernel)) (by decide +kernel), gw_in (tb_3 122 (by decide +kernel)) (by decide +kernel), gw_in (tb_1 1 (by decide +kernel)) (by decide +kernel), gw_in (tb_3 123 (by decide +kernel)) (by decide +kernel), ⟨by decide +kernel, by decide +kernel⟩, by decide +kernel⟩
abbrev mX4_turbineByOutput : MI := (yX4_turbineByOutput, cX4_turbineByOutput, 3, (some .int))
theorem vX4_turbineByOutput : MV mX4_turbineByOutput 1 RX4 := ⟨gw_in (tb_5 3 (by decide +kernel)) (by decide +kernel), gw_in (tb_5 4 (by decide +kernel)) (by decide +kernel), gw_in (tb_1 1 (by decide +kernel)) (by decide +kernel), gw_in (tb_5 5 (by decide +kernel)) (by decide +kernel), ⟨by decide +kernel, by decide +kernel⟩, by decide +kernel⟩
abbrev mX4_meanOutput : MI := (yX4_meanOutput, cX4_meanOutput, 1, (some .double))
theorem vX4_meanOutput : MV mX4_meanOutput 0 RX4 := ⟨gw_in (tb_5 33 (by decide +kernel)) (by decide +kernel), gw_in (tb_5 34 (by decide +kernel)) (by decide +kernel), gw_in (tb_1 1 (by decide +kernel)) (by decide +kernel), gw_in (tb_5 35 (by decide +kernel)) (by decide +kernel), ⟨by decide +kernel, by decide +kernel⟩, by decide +kernel⟩
abbrev mX4_runningShare : MI := (yX4_runningShare, cX4_runningShare, 1, (some .float))
theorem vX4_runningShare : MV mX4_runningShare 0 RX4 := ⟨gw_in (tb_5 43 (by decide +kernel)) (by decide +kernel), gw_in (tb_5 44 (by decide +kernel)) (by decide +kernel), gw_in (tb_1 1 (by decide +kernel)) (by decide +kernel), gw_in (tb_5 45 (by decide +kernel)) (by decide +kernel), ⟨by decide +kernel, by decide +kernel⟩, by decide +kernel⟩
abbrev mX4_isConsistent : MI := (yX4_isConsistent, cX4_isConsistent, 1, (some .boolean))
theorem vX4_isConsistent : MV mX4_isConsistent 0 RX4 := ⟨gw_in (tb_3 125 (by decide +kernel)) (by decide +kernel), gw_in (tb_3 126 (by decide +kernel)) (by decide +kernel), gw_in (tb_1 1 (by decide +kernel)) (by decide +kernel), gw_in (tb_3 127 (by decide +kernel)) (by decide +kernel), ⟨by decide +kernel, by decide +kernel⟩, by decide +kernel⟩
abbrev mX4_writeTurbine : MI := (yX4_writeTurbine, cX4_writeTurbine, 2, (some .int))
theorem vX4_writeTurbine : MV mX4_writeTurbine 1 RX4 := ⟨gw_in (tb_5 51 (by decide +kernel)) (by decide +kernel), gw_in (tb_5 52 (by decide +kernel)) (by decide +kernel), gw_in (tb_1 1 (by decide +kernel)) (by decide +kernel), gw_in (tb_5 53 (by decide +kernel)) (by decide +kernel), ⟨by decide +kernel, by decide +kernel⟩, by decide +kernel⟩
abbrev mX4_outputAt : MI := (yX4_outputAt, cX4_outputAt, 2, (some .char))
theorem vX4_outputAt : MV mX4_outputAt 1 RX4 := ⟨gw_in (tb_5 75 (by decide +kernel)) (by decide +kernel), gw_in (tb_5 76 (by decide +kernel)) (by decide +kernel), gw_in (tb_1 1 (by decide +kernel)) (by decide +kernel), gw_in (tb_5 77 (by decide +kernel)) (by decide +kernel), ⟨by decide +kernel, by decide +kernel⟩, by decide +kernel⟩
abbrev mX4_appendInput : MI := (yX4_appendInput, cX4_appendInput, 2, (some .int))
theorem vX4_appendInput : MV mX4_appendInput 1 RX4 := ⟨gw_in (tb_5 88 (by decide +kernel)) (by decide +kernel), gw_in (tb_5 89 (by decide +kernel)) (by decide +kernel), gw_in (tb_1 1 (by decide +kernel)) (by decide +kernel), gw_in (tb_5 90 (by decide +kernel)) (by decide +kernel), ⟨by decide +kernel, by decide +kernel⟩, by decide +kernel⟩
abbrev mX4_execute : MI := (yX4_execute, cX4_execute, 7, (some .int))
theorem vX4_execute : MV mX4_execute 0 RX4 := ⟨gw_in (tb_5 112 (by decide +kernel)) (by decide +kernel), gw_in (tb_5 113 (by decide +kernel)) (by decide +kernel), gw_in (tb_1 1 (by decide +kernel)) (by decide +kernel), gw_in (tb_5 114 (by decide +kernel)) (by decide +kernel), ⟨by decide +kernel, by decide +kernel⟩, by decide +kernel⟩
abbrev mX4_syntaxErrorOffset : MI := (yX4_syntaxErrorOffset, cX4_syntaxErrorOffset, 1, (some .int))
theorem vX4_syntaxErrorOffset : MV mX4_syntaxErrorOffset 0 RX4 := ⟨gw_in (tb_5 196 (by decide +kernel)) (by decide +kernel), gw_in (tb_5 197 (by decide +kernel)) (by decide +kernel), gw_in (tb_1 1 (by decide +kernel)) (by decide +kernel), gw_in (tb_5 198 (by decide +kernel)) (by decide +kernel), ⟨by decide +kernel, by decide +kernel⟩, by decide +kernel⟩
abbrev mX4_rejectionReason : MI := (yX4_rejectionReason, cX4_rejectionReason, 1, (some .int))
theorem vX4_rejectionReason : MV mX4_rejectionReason 0 RX4 := ⟨gw_in (tb_5 204 (by decide +kernel)) (by decide +kernel), gw_in (tb_5 205 (by decide +kernel)) (by decide +kernel), gw_in (tb_1 1 (by decide +kernel)) (by decide +kernel), gw_in (tb_5 206 (by decide +kernel)) (by decide +kernel), ⟨by decide +kernel, by decide +kernel⟩, by decide +kernel⟩
abbrev mX4_rejectionDetail : MI := (yX4_rejectionDetail, cX4_rejectionDetail, 1, (some .int))
theorem vX4_rejectionDetail : MV mX4_rejectionDetail 0 RX4 := ⟨gw_in (tb_5 216 (by decide +kernel)) (by decide +kernel), gw_in (tb_5 217 (by decide +kernel)) (by decide +kernel), gw_in (tb_1 1 (by decide +kernel)) (by decide +kernel), gw_in (tb_5 218 (by decide +kernel)) (by decide +kernel), ⟨by decide +kernel, by decide +kernel⟩, by decide +kernel⟩
abbrev mX4_causeReason : MI := (yX4_causeReason, cX4_causeReason, 1, (some .int))
theorem vX4_causeReason : MV mX4_causeReason 0 RX4 := ⟨gw_in (tb_5 223 (by decide +kernel)) (by decide +kernel), gw_in (tb_5 224 (by decide +kernel)) (by decide +kernel), gw_in (tb_1 1 (by decide +kernel)) (by decide +kernel), gw_in (tb_5 225 (by decide +kernel)) (by decide +kernel), ⟨by decide +kernel, by decide +kernel⟩, by decide +kernel⟩
abbrev mX4_undo : MI := (yX4_undo, cX4_undo, 1, (some .int))
theorem vX4_undo : MV mX4_undo 0 RX4 := ⟨gw_in (tb_5 231 (by decide +kernel)) (by decide +kernel), gw_in (tb_5 232 (by decide +kernel)) (by decide +kernel), gw_in (tb_1 1 (by decide +kernel)) (by decide +kernel), gw_in (tb_5 233 (by decide +kernel)) (by decide +kernel), ⟨by decide +kernel, by decide +kernel⟩, by decide +kernel⟩
abbrev mX4_saveSnapshot : MI := (yX4_saveSnapshot, cX4_saveSnapshot, 1, (some .int))
theorem vX4_saveSnapshot : MV mX4_saveSnapshot 0 RX4 := ⟨gw_in (tb_3 129 (by decide +kernel)) (by decide +kernel), gw_in (tb_3 130 (by decide +kernel)) (by decide +kernel), gw_in (tb_1 1 (by decide +kernel)) (by decide +kernel), gw_in (tb_3 131 (by decide +kernel)) (by decide +kernel), ⟨by decide +kernel, by decide +kernel⟩, by decide +kernel⟩
abbrev mX4_restoreSnapshot : MI := (yX4_restoreSnapshot, cX4_restoreSnapshot, 1, (some .int))
theorem vX4_restoreSnapshot : MV mX4_restoreSnapshot 0 RX4 := ⟨gw_in (tb_6 3 (by decide +kernel)) (by decide +kernel), gw_in (tb_6 4 (by decide +kernel)) (by decide +kernel), gw_in (tb_1 1 (by decide +kernel)) (by decide +kernel), gw_in (tb_6 5 (by decide +kernel)) (by decide +kernel), ⟨by decide +kernel, by decide +kernel⟩, by decide +kernel⟩
abbrev mX4_admit : MI := (yX4_admit, cX4_admit, 6, none)
theorem vX4_admit : MV mX4_admit 4 RX4 := ⟨gw_in (tb_2 132 (by decide +kernel)) (by decide +kernel), gw_in (tb_0 4 (by decide +kernel)) (by decide +kernel), gw_in (tb_1 1 (by decide +kernel)) (by decide +kernel), gw_in (tb_2 133 (by decide +kernel)) (by decide +kernel), ⟨by decide +kernel, by decide +kernel⟩, by decide +kernel⟩
abbrev mX4_refuseCommand : MI := (yX4_refuseCommand, cX4_refuseCommand, 3, none)
theorem vX4_refuseCommand : MV mX4_refuseCommand 2 RX4 := ⟨gw_in (tb_5 172 (by decide +kernel)) (by decide +kernel), gw_in (tb_0 28 (by decide +kernel)) (by decide +kernel), gw_in (tb_1 1 (by decide +kernel)) (by decide +kernel), gw_in (tb_5 173 (by decide +kernel)) (by decide +kernel), ⟨by decide +kernel, by decide +kernel⟩, by decide +kernel⟩
abbrev mX4_reject : MI := (yX4_reject, cX4_reject, 4, none)
theorem vX4_reject : MV mX4_reject 3 RX4 := ⟨gw_in (tb_3 43 (by decide +kernel)) (by decide +kernel), gw_in (tb_0 12 (by decide +kernel)) (by decide +kernel), gw_in (tb_1 1 (by decide +kernel)) (by decide +kernel), gw_in (tb_3 44 (by decide +kernel)) (by decide +kernel), ⟨by decide +kernel, by decide +kernel⟩, by decide +kernel⟩
abbrev mX4_requireTurbine : MI := (yX4_requireTurbine, cX4_requireTurbine, 2, none)
theorem vX4_requireTurbine : MV mX4_requireTurbine 1 RX4 := ⟨gw_in (tb_4 20 (by decide +kernel)) (by decide +kernel), gw_in (tb_0 15 (by decide +kernel)) (by decide +kernel), gw_in (tb_1 1 (by decide +kernel)) (by decide +kernel), gw_in (tb_4 21 (by decide +kernel)) (by decide +kernel), ⟨by decide +kernel, by decide +kernel⟩, by decide +kernel⟩
abbrev mX4_requireHour : MI := (yX4_requireHour, cX4_requireHour, 2, none)
theorem vX4_requireHour : MV mX4_requireHour 1 RX4 := ⟨gw_in (tb_4 164 (by decide +kernel)) (by decide +kernel), gw_in (tb_0 16 (by decide +kernel)) (by decide +kernel), gw_in (tb_1 1 (by decide +kernel)) (by decide +kernel), gw_in (tb_4 165 (by decide +kernel)) (by decide +kernel), ⟨by decide +kernel, by decide +kernel⟩, by decide +kernel⟩
abbrev mX4_requireBid : MI := (yX4_requireBid, cX4_requireBid, 2, none)
theorem vX4_requireBid : MV mX4_requireBid 1 RX4 := ⟨gw_in (tb_4 178 (by decide +kernel)) (by decide +kernel), gw_in (tb_0 17 (by decide +kernel)) (by decide +kernel), gw_in (tb_1 1 (by decide +kernel)) (by decide +kernel), gw_in (tb_4 179 (by decide +kernel)) (by decide +kernel), ⟨by decide +kernel, by decide +kernel⟩, by decide +kernel⟩
abbrev mX4_requireRejection : MI := (yX4_requireRejection, cX4_requireRejection, 1, none)
theorem vX4_requireRejection : MV mX4_requireRejection 0 RX4 := ⟨gw_in (tb_5 209 (by decide +kernel)) (by decide +kernel), gw_in (tb_0 29 (by decide +kernel)) (by decide +kernel), gw_in (tb_1 1 (by decide +kernel)) (by decide +kernel), gw_in (tb_5 210 (by decide +kernel)) (by decide +kernel), ⟨by decide +kernel, by decide +kernel⟩, by decide +kernel⟩
abbrev mX4_writeNumber : MI := (yX4_writeNumber, cX4_writeNumber, 3, none)
theorem vX4_writeNumber : MV mX4_writeNumber 2 RX4 := ⟨gw_in (tb_5 68 (by decide +kernel)) (by decide +kernel), gw_in (tb_0 22 (by decide +kernel)) (by decide +kernel), gw_in (tb_1 1 (by decide +kernel)) (by decide +kernel), gw_in (tb_5 69 (by decide +kernel)) (by decide +kernel), ⟨by decide +kernel, by decide +kernel⟩, by decide +kernel⟩
abbrev mX4_isWithin : MI := (yX4_isWithin, cX4_isWithin, 3, (some .boolean))
theorem vX4_isWithin : MS mX4_isWithin 3 := ⟨gw_in (tb_2 146 (by decide +kernel)) (by decide +kernel), gw_in (tb_1 1 (by decide +kernel)) (by decide +kernel), gw_in (tb_2 147 (by decide +kernel)) (by decide +kernel), ⟨by decide +kernel, by decide +kernel⟩, by decide +kernel⟩
abbrev mX4_isCell : MI := (yX4_isCell, cX4_isCell, 2, (some .boolean))
theorem vX4_isCell : MS mX4_isCell 2 := ⟨gw_in (tb_2 143 (by decide +kernel)) (by decide +kernel), gw_in (tb_1 1 (by decide +kernel)) (by decide +kernel), gw_in (tb_2 144 (by decide +kernel)) (by decide +kernel), ⟨by decide +kernel, by decide +kernel⟩, by decide +kernel⟩
abbrev mX4_isHourOfDay : MI := (yX4_isHourOfDay, cX4_isHourOfDay, 1, (some .boolean))
theorem vX4_isHourOfDay : MS mX4_isHourOfDay 1 := ⟨gw_in (tb_2 166 (by decide +kernel)) (by decide +kernel), gw_in (tb_1 1 (by decide +kernel)) (by decide +kernel), gw_in (tb_2 167 (by decide +kernel)) (by decide +kernel), ⟨by decide +kernel, by decide +kernel⟩, by decide +kernel⟩
abbrev mX4_isDirection : MI := (yX4_isDirection, cX4_isDirection, 1, (some .boolean))
theorem vX4_isDirection : MS mX4_isDirection 1 := ⟨gw_in (tb_2 180 (by decide +kernel)) (by decide +kernel), gw_in (tb_1 1 (by decide +kernel)) (by decide +kernel), gw_in (tb_2 181 (by decide +kernel)) (by decide +kernel), ⟨by decide +kernel, by decide +kernel⟩, by decide +kernel⟩
abbrev mX4_isWind : MI := (yX4_isWind, cX4_isWind, 2, (some .boolean))
theorem vX4_isWind : MS mX4_isWind 2 := ⟨gw_in (tb_2 177 (by decide +kernel)) (by decide +kernel), gw_in (tb_1 1 (by decide +kernel)) (by decide +kernel), gw_in (tb_2 178 (by decide +kernel)) (by decide +kernel), ⟨by decide +kernel, by decide +kernel⟩, by decide +kernel⟩
abbrev mX4_factorOf : MI := (yX4_factorOf, cX4_factorOf, 1, (some .int))
theorem vX4_factorOf : MS mX4_factorOf 1 := ⟨gw_in (tb_2 2 (by decide +kernel)) (by decide +kernel), gw_in (tb_1 1 (by decide +kernel)) (by decide +kernel), gw_in (tb_2 3 (by decide +kernel)) (by decide +kernel), ⟨by decide +kernel, by decide +kernel⟩, by decide +kernel⟩
abbrev mX4_valueAt : MI := (yX4_valueAt, cX4_valueAt, 2, (some .int))
theorem vX4_valueAt : MS mX4_valueAt 2 := ⟨gw_in (tb_2 21 (by decide +kernel)) (by decide +kernel), gw_in (tb_1 1 (by decide +kernel)) (by decide +kernel), gw_in (tb_2 22 (by decide +kernel)) (by decide +kernel), ⟨by decide +kernel, by decide +kernel⟩, by decide +kernel⟩
abbrev mX4_setValue : MI := (yX4_setValue, cX4_setValue, 3, none)
theorem vX4_setValue : MS mX4_setValue 3 := ⟨gw_in (tb_3 90 (by decide +kernel)) (by decide +kernel), gw_in (tb_1 1 (by decide +kernel)) (by decide +kernel), gw_in (tb_3 91 (by decide +kernel)) (by decide +kernel), ⟨by decide +kernel, by decide +kernel⟩, by decide +kernel⟩
abbrev mX5_init : MI := (yX5_init, cX5_init, 1, none)
theorem vX5_init : Cond.instanceMethod yX5_init ∈ gw ∧ Cond.initialized yX5_init.cls ∈ gw ∧ Cond.code yX5_init cX5_init 1 none ∈ gw := ⟨gw_in (tb_6 14 (by decide +kernel)) (by decide +kernel), gw_in (tb_1 6 (by decide +kernel)) (by decide +kernel), gw_in (tb_6 15 (by decide +kernel)) (by decide +kernel)⟩
abbrev mX5_thrown : MI := (yX5_thrown, cX5_thrown, 1, (some .int))
theorem vX5_thrown : MV mX5_thrown 0 RX5 := ⟨gw_in (tb_6 70 (by decide +kernel)) (by decide +kernel), gw_in (tb_6 71 (by decide +kernel)) (by decide +kernel), gw_in (tb_1 6 (by decide +kernel)) (by decide +kernel), gw_in (tb_6 72 (by decide +kernel)) (by decide +kernel), ⟨by decide +kernel, by decide +kernel⟩, by decide +kernel⟩
abbrev mX5_in : MI := (yX5_in, cX5_in, 3, (some .boolean))
theorem vX5_in : MS mX5_in 3 := ⟨gw_in (tb_6 109 (by decide +kernel)) (by decide +kernel), gw_in (tb_1 6 (by decide +kernel)) (by decide +kernel), gw_in (tb_6 110 (by decide +kernel)) (by decide +kernel), ⟨by decide +kernel, by decide +kernel⟩, by decide +kernel⟩
abbrev mX5_copies : MI := (yX5_copies, cX5_copies, 4, none)
theorem vX5_copies : MV mX5_copies 2 RX5 := ⟨gw_in (tb_6 99 (by decide +kernel)) (by decide +kernel), gw_in (tb_0 32 (by decide +kernel)) (by decide +kernel), gw_in (tb_1 6 (by decide +kernel)) (by decide +kernel), gw_in (tb_6 100 (by decide +kernel)) (by decide +kernel), ⟨by decide +kernel, by decide +kernel⟩, by decide +kernel⟩
abbrev mX5_begins : MI := (yX5_begins, cX5_begins, 1, none)
theorem vX5_begins : MV mX5_begins 0 RX5 := ⟨gw_in (tb_6 95 (by decide +kernel)) (by decide +kernel), gw_in (tb_0 31 (by decide +kernel)) (by decide +kernel), gw_in (tb_1 6 (by decide +kernel)) (by decide +kernel), gw_in (tb_6 96 (by decide +kernel)) (by decide +kernel), ⟨by decide +kernel, by decide +kernel⟩, by decide +kernel⟩
abbrev mX5_ends : MI := (yX5_ends, cX5_ends, 6, (some .int))
theorem vX5_ends : MV mX5_ends 4 RX5 := ⟨gw_in (tb_6 129 (by decide +kernel)) (by decide +kernel), gw_in (tb_0 38 (by decide +kernel)) (by decide +kernel), gw_in (tb_1 6 (by decide +kernel)) (by decide +kernel), gw_in (tb_6 130 (by decide +kernel)) (by decide +kernel), ⟨by decide +kernel, by decide +kernel⟩, by decide +kernel⟩
abbrev mX5_isFine : MI := (yX5_isFine, cX5_isFine, 2, (some .boolean))
theorem vX5_isFine : MV mX5_isFine 1 RX5 := ⟨gw_in (tb_6 79 (by decide +kernel)) (by decide +kernel), gw_in (tb_0 30 (by decide +kernel)) (by decide +kernel), gw_in (tb_1 6 (by decide +kernel)) (by decide +kernel), gw_in (tb_6 80 (by decide +kernel)) (by decide +kernel), ⟨by decide +kernel, by decide +kernel⟩, by decide +kernel⟩
abbrev mX5_rejects : MI := (yX5_rejects, cX5_rejects, 4, (some .boolean))
theorem vX5_rejects : MV mX5_rejects 3 RX5 := ⟨gw_in (tb_6 121 (by decide +kernel)) (by decide +kernel), gw_in (tb_0 36 (by decide +kernel)) (by decide +kernel), gw_in (tb_1 6 (by decide +kernel)) (by decide +kernel), gw_in (tb_6 122 (by decide +kernel)) (by decide +kernel), ⟨by decide +kernel, by decide +kernel⟩, by decide +kernel⟩
abbrev mX5_rejectionReason : MI := (yX5_rejectionReason, cX5_rejectionReason, 1, (some .int))
theorem vX5_rejectionReason : MV mX5_rejectionReason 0 RX5 := ⟨gw_in (tb_6 74 (by decide +kernel)) (by decide +kernel), gw_in (tb_6 75 (by decide +kernel)) (by decide +kernel), gw_in (tb_1 6 (by decide +kernel)) (by decide +kernel), gw_in (tb_6 76 (by decide +kernel)) (by decide +kernel), ⟨by decide +kernel, by decide +kernel⟩, by decide +kernel⟩
abbrev mX5_rejectionDetail : MI := (yX5_rejectionDetail, cX5_rejectionDetail, 1, (some .int))
theorem vX5_rejectionDetail : MV mX5_rejectionDetail 0 RX5 := ⟨gw_in (tb_6 82 (by decide +kernel)) (by decide +kernel), gw_in (tb_6 83 (by decide +kernel)) (by decide +kernel), gw_in (tb_1 6 (by decide +kernel)) (by decide +kernel), gw_in (tb_6 84 (by decide +kernel)) (by decide +kernel), ⟨by decide +kernel, by decide +kernel⟩, by decide +kernel⟩
abbrev mX5_causeReason : MI := (yX5_causeReason, cX5_causeReason, 1, (some .int))
theorem vX5_causeReason : MV mX5_causeReason 0 RX5 := ⟨gw_in (tb_6 86 (by decide +kernel)) (by decide +kernel), gw_in (tb_6 87 (by decide +kernel)) (by decide +kernel), gw_in (tb_1 6 (by decide +kernel)) (by decide +kernel), gw_in (tb_6 88 (by decide +kernel)) (by decide +kernel), ⟨by decide +kernel, by decide +kernel⟩, by decide +kernel⟩
abbrev mX5_t : MI := (yX5_t, cX5_t, 3, (some .int))
theorem vX5_t : MV mX5_t 2 RX5 := ⟨gw_in (tb_6 117 (by decide +kernel)) (by decide +kernel), gw_in (tb_0 35 (by decide +kernel)) (by decide +kernel), gw_in (tb_1 6 (by decide +kernel)) (by decide +kernel), gw_in (tb_6 118 (by decide +kernel)) (by decide +kernel), ⟨by decide +kernel, by decide +kernel⟩, by decide +kernel⟩
abbrev mX5_set : MI := (yX5_set, cX5_set, 4, none)
theorem vX5_set : MV mX5_set 3 RX5 := ⟨gw_in (tb_6 125 (by decide +kernel)) (by decide +kernel), gw_in (tb_0 37 (by decide +kernel)) (by decide +kernel), gw_in (tb_1 6 (by decide +kernel)) (by decide +kernel), gw_in (tb_6 126 (by decide +kernel)) (by decide +kernel), ⟨by decide +kernel, by decide +kernel⟩, by decide +kernel⟩
abbrev mX5_isTurbine : MI := (yX5_isTurbine, cX5_isTurbine, 2, (some .boolean))
theorem vX5_isTurbine : MV mX5_isTurbine 1 RX5 := ⟨gw_in (tb_6 141 (by decide +kernel)) (by decide +kernel), gw_in (tb_0 40 (by decide +kernel)) (by decide +kernel), gw_in (tb_1 6 (by decide +kernel)) (by decide +kernel), gw_in (tb_6 142 (by decide +kernel)) (by decide +kernel), ⟨by decide +kernel, by decide +kernel⟩, by decide +kernel⟩
abbrev mX5_isCell : MI := (yX5_isCell, cX5_isCell, 2, (some .boolean))
theorem vX5_isCell : MS mX5_isCell 2 := ⟨gw_in (tb_6 106 (by decide +kernel)) (by decide +kernel), gw_in (tb_1 6 (by decide +kernel)) (by decide +kernel), gw_in (tb_6 107 (by decide +kernel)) (by decide +kernel), ⟨by decide +kernel, by decide +kernel⟩, by decide +kernel⟩
abbrev mX5_inCell : MI := (yX5_inCell, cX5_inCell, 4, (some .int))
theorem vX5_inCell : MV mX5_inCell 2 RX5 := ⟨gw_in (tb_6 113 (by decide +kernel)) (by decide +kernel), gw_in (tb_0 34 (by decide +kernel)) (by decide +kernel), gw_in (tb_1 6 (by decide +kernel)) (by decide +kernel), gw_in (tb_6 114 (by decide +kernel)) (by decide +kernel), ⟨by decide +kernel, by decide +kernel⟩, by decide +kernel⟩
abbrev mX5_factorOf : MI := (yX5_factorOf, cX5_factorOf, 1, (some .int))
theorem vX5_factorOf : MS mX5_factorOf 1 := ⟨gw_in (tb_6 164 (by decide +kernel)) (by decide +kernel), gw_in (tb_1 6 (by decide +kernel)) (by decide +kernel), gw_in (tb_6 165 (by decide +kernel)) (by decide +kernel), ⟨by decide +kernel, by decide +kernel⟩, by decide +kernel⟩
abbrev mX5_wakeOf : MI := (yX5_wakeOf, cX5_wakeOf, 6, (some .int))
theorem vX5_wakeOf : MV mX5_wakeOf 2 RX5 := ⟨gw_in (tb_6 172 (by decide +kernel)) (by decide +kernel), gw_in (tb_0 46 (by decide +kernel)) (by decide +kernel), gw_in (tb_1 6 (by decide +kernel)) (by decide +kernel), gw_in (tb_6 173 (by decide +kernel)) (by decide +kernel), ⟨by decide +kernel, by decide +kernel⟩, by decide +kernel⟩
abbrev mX5_lossOf : MI := (yX5_lossOf, cX5_lossOf, 2, (some .int))
theorem vX5_lossOf : MV mX5_lossOf 1 RX5 := ⟨gw_in (tb_6 168 (by decide +kernel)) (by decide +kernel), gw_in (tb_0 45 (by decide +kernel)) (by decide +kernel), gw_in (tb_1 6 (by decide +kernel)) (by decide +kernel), gw_in (tb_6 169 (by decide +kernel)) (by decide +kernel), ⟨by decide +kernel, by decide +kernel⟩, by decide +kernel⟩
abbrev mX5_available : MI := (yX5_available, cX5_available, 3, (some .int))
theorem vX5_available : MV mX5_available 1 RX5 := ⟨gw_in (tb_6 161 (by decide +kernel)) (by decide +kernel), gw_in (tb_0 44 (by decide +kernel)) (by decide +kernel), gw_in (tb_1 6 (by decide +kernel)) (by decide +kernel), gw_in (tb_6 162 (by decide +kernel)) (by decide +kernel), ⟨by decide +kernel, by decide +kernel⟩, by decide +kernel⟩
abbrev mX5_output : MI := (yX5_output, cX5_output, 4, (some .int))
theorem vX5_output : MV mX5_output 1 RX5 := ⟨gw_in (tb_6 157 (by decide +kernel)) (by decide +kernel), gw_in (tb_0 43 (by decide +kernel)) (by decide +kernel), gw_in (tb_1 6 (by decide +kernel)) (by decide +kernel), gw_in (tb_6 158 (by decide +kernel)) (by decide +kernel), ⟨by decide +kernel, by decide +kernel⟩, by decide +kernel⟩
abbrev mX5_total : MI := (yX5_total, cX5_total, 3, (some .int))
theorem vX5_total : MV mX5_total 0 RX5 := ⟨gw_in (tb_6 215 (by decide +kernel)) (by decide +kernel), gw_in (tb_0 52 (by decide +kernel)) (by decide +kernel), gw_in (tb_1 6 (by decide +kernel)) (by decide +kernel), gw_in (tb_6 216 (by decide +kernel)) (by decide +kernel), ⟨by decide +kernel, by decide +kernel⟩, by decide +kernel⟩
abbrev mX5_inState : MI := (yX5_inState, cX5_inState, 4, (some .int))
theorem vX5_inState : MV mX5_inState 1 RX5 := ⟨gw_in (tb_6 145 (by decide +kernel)) (by decide +kernel), gw_in (tb_0 41 (by decide +kernel)) (by decide +kernel), gw_in (tb_1 6 (by decide +kernel)) (by decide +kernel), gw_in (tb_6 146 (by decide +kernel)) (by decide +kernel), ⟨by decide +kernel, by decide +kernel⟩, by decide +kernel⟩
abbrev mX5_firstInService : MI := (yX5_firstInService, cX5_firstInService, 2, (some .int))
theorem vX5_firstInService : MV mX5_firstInService 0 RX5 := ⟨gw_in (tb_6 176 (by decide +kernel)) (by decide +kernel), gw_in (tb_0 47 (by decide +kernel)) (by decide +kernel), gw_in (tb_1 6 (by decide +kernel)) (by decide +kernel), gw_in (tb_6 177 (by decide +kernel)) (by decide +kernel), ⟨by decide +kernel, by decide +kernel⟩, by decide +kernel⟩
abbrev mX5_wayOf : MI := (yX5_wayOf, cX5_wayOf, 1, (some .int))
theorem vX5_wayOf : MS mX5_wayOf 1 := ⟨gw_in (tb_6 207 (by decide +kernel)) (by decide +kernel), gw_in (tb_1 6 (by decide +kernel)) (by decide +kernel), gw_in (tb_6 208 (by decide +kernel)) (by decide +kernel), ⟨by decide +kernel, by decide +kernel⟩, by decide +kernel⟩
abbrev mX5_signOf : MI := (yX5_signOf, cX5_signOf, 1, (some .char))
theorem vX5_signOf : MS mX5_signOf 1 := ⟨gw_in (tb_7 97 (by decide +kernel)) (by decide +kernel), gw_in (tb_1 6 (by decide +kernel)) (by decide +kernel), gw_in (tb_7 98 (by decide +kernel)) (by decide +kernel), ⟨by decide +kernel, by decide +kernel⟩, by decide +kernel⟩
abbrev mX5_adds : MI := (yX5_adds, cX5_adds, 7, (some .int))
theorem vX5_adds : MV mX5_adds 3 RX5 := ⟨gw_in (tb_6 103 (by decide +kernel)) (by decide +kernel), gw_in (tb_0 33 (by decide +kernel)) (by decide +kernel), gw_in (tb_1 6 (by decide +kernel)) (by decide +kernel), gw_in (tb_6 104 (by decide +kernel)) (by decide +kernel), ⟨by decide +kernel, by decide +kernel⟩, by decide +kernel⟩
abbrev mX5_addTurbine : MI := (yX5_addTurbine, cX5_addTurbine, 4, (some .int))
theorem vX5_addTurbine : MV mX5_addTurbine 3 RX5 := ⟨gw_in (tb_6 90 (by decide +kernel)) (by decide +kernel), gw_in (tb_6 91 (by decide +kernel)) (by decide +kernel), gw_in (tb_1 6 (by decide +kernel)) (by decide +kernel), gw_in (tb_6 92 (by decide +kernel)) (by decide +kernel), ⟨by decide +kernel, by decide +kernel⟩, by decide +kernel⟩
abbrev mX5_fails : MI := (yX5_fails, cX5_fails, 2, (some .int))
theorem vX5_fails : MV mX5_fails 1 RX5 := ⟨gw_in (tb_6 137 (by decide +kernel)) (by decide +kernel), gw_in (tb_0 39 (by decide +kernel)) (by decide +kernel), gw_in (tb_1 6 (by decide +kernel)) (by decide +kernel), gw_in (tb_6 138 (by decide +kernel)) (by decide +kernel), ⟨by decide +kernel, by decide +kernel⟩, by decide +kernel⟩
abbrev mX5_fail : MI := (yX5_fail, cX5_fail, 2, (some .int))
theorem vX5_fail : MV mX5_fail 1 RX5 := ⟨gw_in (tb_6 132 (by decide +kernel)) (by decide +kernel), gw_in (tb_6 133 (by decide +kernel)) (by decide +kernel), gw_in (tb_1 6 (by decide +kernel)) (by decide +kernel), gw_in (tb_6 134 (by decide +kernel)) (by decide +kernel), ⟨by decide +kernel, by decide +kernel⟩, by decide +kernel⟩
abbrev mX5_sends : MI := (yX5_sends, cX5_sends, 3, (some .int))
theorem vX5_sends : MV mX5_sends 2 RX5 := ⟨gw_in (tb_6 153 (by decide +kernel)) (by decide +kernel), gw_in (tb_0 42 (by decide +kernel)) (by decide +kernel), gw_in (tb_1 6 (by decide +kernel)) (by decide +kernel), gw_in (tb_6 154 (by decide +kernel)) (by decide +kernel), ⟨by decide +kernel, by decide +kernel⟩, by decide +kernel⟩
abbrev mX5_sendCrew : MI := (yX5_sendCrew, cX5_sendCrew, 3, (some .int))
theorem vX5_sendCrew : MV mX5_sendCrew 2 RX5 := ⟨gw_in (tb_6 148 (by decide +kernel)) (by decide +kernel), gw_in (tb_6 149 (by decide +kernel)) (by decide +kernel), gw_in (tb_1 6 (by decide +kernel)) (by decide +kernel), gw_in (tb_6 150 (by decide +kernel)) (by decide +kernel), ⟨by decide +kernel, by decide +kernel⟩, by decide +kernel⟩
abbrev mX5_recalls : MI := (yX5_recalls, cX5_recalls, 2, (some .int))
theorem vX5_recalls : MV mX5_recalls 1 RX5 := ⟨gw_in (tb_6 184 (by decide +kernel)) (by decide +kernel), gw_in (tb_0 48 (by decide +kernel)) (by decide +kernel), gw_in (tb_1 6 (by decide +kernel)) (by decide +kernel), gw_in (tb_6 185 (by decide +kernel)) (by decide +kernel), ⟨by decide +kernel, by decide +kernel⟩, by decide +kernel⟩
abbrev mX5_recallCrew : MI := (yX5_recallCrew, cX5_recallCrew, 2, (some .int))
theorem vX5_recallCrew : MV mX5_recallCrew 1 RX5 := ⟨gw_in (tb_6 179 (by decide +kernel)) (by decide +kernel), gw_in (tb_6 180 (by decide +kernel)) (by decide +kernel), gw_in (tb_1 6 (by decide +kernel)) (by decide +kernel), gw_in (tb_6 181 (by decide +kernel)) (by decide +kernel), ⟨by decide +kernel, by decide +kernel⟩, by decide +kernel⟩
abbrev mX5_curtails : MI := (yX5_curtails, cX5_curtails, 3, (some .int))
theorem vX5_curtails : MV mX5_curtails 2 RX5 := ⟨gw_in (tb_6 192 (by decide +kernel)) (by decide +kernel), gw_in (tb_0 49 (by decide +kernel)) (by decide +kernel), gw_in (tb_1 6 (by decide +kernel)) (by decide +kernel), gw_in (tb_6 193 (by decide +kernel)) (by decide +kernel), ⟨by decide +kernel, by decide +kernel⟩, by decide +kernel⟩
abbrev mX5_curtail : MI := (yX5_curtail, cX5_curtail, 3, (some .int))
theorem vX5_curtail : MV mX5_curtail 2 RX5 := ⟨gw_in (tb_6 187 (by decide +kernel)) (by decide +kernel), gw_in (tb_6 188 (by decide +kernel)) (by decide +kernel), gw_in (tb_1 6 (by decide +kernel)) (by decide +kernel), gw_in (tb_6 189 (by decide +kernel)) (by decide +kernel), ⟨by decide +kernel, by decide +kernel⟩, by decide +kernel⟩
abbrev mX5_releases : MI := (yX5_releases, cX5_releases, 2, (some .int))
theorem vX5_releases : MV mX5_releases 1 RX5 := ⟨gw_in (tb_6 200 (by decide +kernel)) (by decide +kernel), gw_in (tb_0 50 (by decide +kernel)) (by decide +kernel), gw_in (tb_1 6 (by decide +kernel)) (by decide +kernel), gw_in (tb_6 201 (by decide +kernel)) (by decide +kernel), ⟨by decide +kernel, by decide +kernel⟩, by decide +kernel⟩
abbrev mX5_release : MI := (yX5_release, cX5_release, 2, (some .int))
theorem vX5_release : MV mX5_release 1 RX5 := ⟨gw_in (tb_6 195 (by decide +kernel)) (by decide +kernel), gw_in (tb_6 196 (by decide +kernel)) (by decide +kernel), gw_in (tb_1 6 (by decide +kernel)) (by decide +kernel), gw_in (tb_6 197 (by decide +kernel)) (by decide +kernel), ⟨by decide +kernel, by decide +kernel⟩, by decide +kernel⟩
abbrev mX5_blows : MI := (yX5_blows, cX5_blows, 3, (some .int))
theorem vX5_blows : MV mX5_blows 2 RX5 := ⟨gw_in (tb_6 211 (by decide +kernel)) (by decide +kernel), gw_in (tb_0 51 (by decide +kernel)) (by decide +kernel), gw_in (tb_1 6 (by decide +kernel)) (by decide +kernel), gw_in (tb_6 212 (by decide +kernel)) (by decide +kernel), ⟨by decide +kernel, by decide +kernel⟩, by decide +kernel⟩
abbrev mX5_setWind : MI := (yX5_setWind, cX5_setWind, 3, (some .int))
theorem vX5_setWind : MV mX5_setWind 2 RX5 := ⟨gw_in (tb_6 203 (by decide +kernel)) (by decide +kernel), gw_in (tb_6 204 (by decide +kernel)) (by decide +kernel), gw_in (tb_1 6 (by decide +kernel)) (by decide +kernel), gw_in (tb_6 205 (by decide +kernel)) (by decide +kernel), ⟨by decide +kernel, by decide +kernel⟩, by decide +kernel⟩
abbrev mX5_limits : MI := (yX5_limits, cX5_limits, 2, (some .int))
theorem vX5_limits : MV mX5_limits 1 RX5 := ⟨gw_in (tb_6 223 (by decide +kernel)) (by decide +kernel), gw_in (tb_0 53 (by decide +kernel)) (by decide +kernel), gw_in (tb_1 6 (by decide +kernel)) (by decide +kernel), gw_in (tb_6 224 (by decide +kernel)) (by decide +kernel), ⟨by decide +kernel, by decide +kernel⟩, by decide +kernel⟩
abbrev mX5_setGridLimit : MI := (yX5_setGridLimit, cX5_setGridLimit, 2, (some .int))
theorem vX5_setGridLimit : MV mX5_setGridLimit 1 RX5 := ⟨gw_in (tb_6 218 (by decide +kernel)) (by decide +kernel), gw_in (tb_6 219 (by decide +kernel)) (by decide +kernel), gw_in (tb_1 6 (by decide +kernel)) (by decide +kernel), gw_in (tb_6 220 (by decide +kernel)) (by decide +kernel), ⟨by decide +kernel, by decide +kernel⟩, by decide +kernel⟩
abbrev mX5_dispatches : MI := (yX5_dispatches, cX5_dispatches, 4, (some .int))
theorem vX5_dispatches : MV mX5_dispatches 0 RX5 := ⟨gw_in (tb_6 231 (by decide +kernel)) (by decide +kernel), gw_in (tb_0 54 (by decide +kernel)) (by decide +kernel), gw_in (tb_1 6 (by decide +kernel)) (by decide +kernel), gw_in (tb_6 232 (by decide +kernel)) (by decide +kernel), ⟨by decide +kernel, by decide +kernel⟩, by decide +kernel⟩
abbrev mX5_dispatch : MI := (yX5_dispatch, cX5_dispatch, 1, (some .int))
theorem vX5_dispatch : MV mX5_dispatch 0 RX5 := ⟨gw_in (tb_6 226 (by decide +kernel)) (by decide +kernel), gw_in (tb_6 227 (by decide +kernel)) (by decide +kernel), gw_in (tb_1 6 (by decide +kernel)) (by decide +kernel), gw_in (tb_6 228 (by decide +kernel)) (by decide +kernel), ⟨by decide +kernel, by decide +kernel⟩, by decide +kernel⟩
abbrev mX5_releasesAll : MI := (yX5_releasesAll, cX5_releasesAll, 2, (some .int))
theorem vX5_releasesAll : MV mX5_releasesAll 0 RX5 := ⟨gw_in (tb_6 239 (by decide +kernel)) (by decide +kernel), gw_in (tb_0 55 (by decide +kernel)) (by decide +kernel), gw_in (tb_1 6 (by decide +kernel)) (by decide +kernel), gw_in (tb_7 0 (by decide +kernel)) (by decide +kernel), ⟨by decide +kernel, by decide +kernel⟩, by decide +kernel⟩
abbrev mX5_releaseAll : MI := (yX5_releaseAll, cX5_releaseAll, 1, (some .int))
theorem vX5_releaseAll : MV mX5_releaseAll 0 RX5 := ⟨gw_in (tb_6 234 (by decide +kernel)) (by decide +kernel), gw_in (tb_6 235 (by decide +kernel)) (by decide +kernel), gw_in (tb_1 6 (by decide +kernel)) (by decide +kernel), gw_in (tb_6 236 (by decide +kernel)) (by decide +kernel), ⟨by decide +kernel, by decide +kernel⟩, by decide +kernel⟩
abbrev mX5_isHour : MI := (yX5_isHour, cX5_isHour, 1, (some .boolean))
theorem vX5_isHour : MS mX5_isHour 1 := ⟨gw_in (tb_7 10 (by decide +kernel)) (by decide +kernel), gw_in (tb_1 6 (by decide +kernel)) (by decide +kernel), gw_in (tb_7 11 (by decide +kernel)) (by decide +kernel), ⟨by decide +kernel, by decide +kernel⟩, by decide +kernel⟩
abbrev mX5_price : MI := (yX5_price, cX5_price, 2, (some .int))
theorem vX5_price : MV mX5_price 1 RX5 := ⟨gw_in (tb_7 14 (by decide +kernel)) (by decide +kernel), gw_in (tb_0 57 (by decide +kernel)) (by decide +kernel), gw_in (tb_1 6 (by decide +kernel)) (by decide +kernel), gw_in (tb_7 15 (by decide +kernel)) (by decide +kernel), ⟨by decide +kernel, by decide +kernel⟩, by decide +kernel⟩
abbrev mX5_quantity : MI := (yX5_quantity, cX5_quantity, 2, (some .int))
theorem vX5_quantity : MV mX5_quantity 1 RX5 := ⟨gw_in (tb_7 30 (by decide +kernel)) (by decide +kernel), gw_in (tb_0 60 (by decide +kernel)) (by decide +kernel), gw_in (tb_1 6 (by decide +kernel)) (by decide +kernel), gw_in (tb_7 31 (by decide +kernel)) (by decide +kernel), ⟨by decide +kernel, by decide +kernel⟩, by decide +kernel⟩
abbrev mX5_bids : MI := (yX5_bids, cX5_bids, 3, (some .int))
theorem vX5_bids : MV mX5_bids 0 RX5 := ⟨gw_in (tb_7 18 (by decide +kernel)) (by decide +kernel), gw_in (tb_0 58 (by decide +kernel)) (by decide +kernel), gw_in (tb_1 6 (by decide +kernel)) (by decide +kernel), gw_in (tb_7 19 (by decide +kernel)) (by decide +kernel), ⟨by decide +kernel, by decide +kernel⟩, by decide +kernel⟩
abbrev mX5_places : MI := (yX5_places, cX5_places, 4, (some .int))
theorem vX5_places : MV mX5_places 3 RX5 := ⟨gw_in (tb_7 7 (by decide +kernel)) (by decide +kernel), gw_in (tb_0 56 (by decide +kernel)) (by decide +kernel), gw_in (tb_1 6 (by decide +kernel)) (by decide +kernel), gw_in (tb_7 8 (by decide +kernel)) (by decide +kernel), ⟨by decide +kernel, by decide +kernel⟩, by decide +kernel⟩
abbrev mX5_placeBid : MI := (yX5_placeBid, cX5_placeBid, 4, (some .int))
theorem vX5_placeBid : MV mX5_placeBid 3 RX5 := ⟨gw_in (tb_7 2 (by decide +kernel)) (by decide +kernel), gw_in (tb_7 3 (by decide +kernel)) (by decide +kernel), gw_in (tb_1 6 (by decide +kernel)) (by decide +kernel), gw_in (tb_7 4 (by decide +kernel)) (by decide +kernel), ⟨by decide +kernel, by decide +kernel⟩, by decide +kernel⟩
abbrev mX5_withdraws : MI := (yX5_withdraws, cX5_withdraws, 2, (some .int))
theorem vX5_withdraws : MV mX5_withdraws 1 RX5 := ⟨gw_in (tb_7 26 (by decide +kernel)) (by decide +kernel), gw_in (tb_0 59 (by decide +kernel)) (by decide +kernel), gw_in (tb_1 6 (by decide +kernel)) (by decide +kernel), gw_in (tb_7 27 (by decide +kernel)) (by decide +kernel), ⟨by decide +kernel, by decide +kernel⟩, by decide +kernel⟩
abbrev mX5_withdrawBid : MI := (yX5_withdrawBid, cX5_withdrawBid, 2, (some .int))
theorem vX5_withdrawBid : MV mX5_withdrawBid 1 RX5 := ⟨gw_in (tb_7 21 (by decide +kernel)) (by decide +kernel), gw_in (tb_7 22 (by decide +kernel)) (by decide +kernel), gw_in (tb_1 6 (by decide +kernel)) (by decide +kernel), gw_in (tb_7 23 (by decide +kernel)) (by decide +kernel), ⟨by decide +kernel, by decide +kernel⟩, by decide +kernel⟩
abbrev mX5_passes : MI := (yX5_passes, cX5_passes, 8, none)
theorem vX5_passes : MV mX5_passes 0 RX5 := ⟨gw_in (tb_7 42 (by decide +kernel)) (by decide +kernel), gw_in (tb_0 62 (by decide +kernel)) (by decide +kernel), gw_in (tb_1 6 (by decide +kernel)) (by decide +kernel), gw_in (tb_7 43 (by decide +kernel)) (by decide +kernel), ⟨by decide +kernel, by decide +kernel⟩, by decide +kernel⟩
abbrev mX5_passesHours : MI := (yX5_passesHours, cX5_passesHours, 4, (some .int))
theorem vX5_passesHours : MV mX5_passesHours 1 RX5 := ⟨gw_in (tb_7 38 (by decide +kernel)) (by decide +kernel), gw_in (tb_0 61 (by decide +kernel)) (by decide +kernel), gw_in (tb_1 6 (by decide +kernel)) (by decide +kernel), gw_in (tb_7 39 (by decide +kernel)) (by decide +kernel), ⟨by decide +kernel, by decide +kernel⟩, by decide +kernel⟩
abbrev mX5_passHours : MI := (yX5_passHours, cX5_passHours, 2, (some .int))
theorem vX5_passHours : MV mX5_passHours 1 RX5 := ⟨gw_in (tb_7 33 (by decide +kernel)) (by decide +kernel), gw_in (tb_7 34 (by decide +kernel)) (by decide +kernel), gw_in (tb_1 6 (by decide +kernel)) (by decide +kernel), gw_in (tb_7 35 (by decide +kernel)) (by decide +kernel), ⟨by decide +kernel, by decide +kernel⟩, by decide +kernel⟩
abbrev mX5_turbineCount : MI := (yX5_turbineCount, cX5_turbineCount, 1, (some .int))
theorem vX5_turbineCount : MV mX5_turbineCount 0 RX5 := ⟨gw_in (tb_7 45 (by decide +kernel)) (by decide +kernel), gw_in (tb_7 46 (by decide +kernel)) (by decide +kernel), gw_in (tb_1 6 (by decide +kernel)) (by decide +kernel), gw_in (tb_7 47 (by decide +kernel)) (by decide +kernel), ⟨by decide +kernel, by decide +kernel⟩, by decide +kernel⟩
abbrev mX5_turbineAt : MI := (yX5_turbineAt, cX5_turbineAt, 4, (some .int))
theorem vX5_turbineAt : MV mX5_turbineAt 2 RX5 := ⟨gw_in (tb_7 49 (by decide +kernel)) (by decide +kernel), gw_in (tb_7 50 (by decide +kernel)) (by decide +kernel), gw_in (tb_1 6 (by decide +kernel)) (by decide +kernel), gw_in (tb_7 51 (by decide +kernel)) (by decide +kernel), ⟨by decide +kernel, by decide +kernel⟩, by decide +kernel⟩
abbrev mX5_ofTurbine : MI := (yX5_ofTurbine, cX5_ofTurbine, 3, (some .int))
theorem vX5_ofTurbine : MV mX5_ofTurbine 2 RX5 := ⟨gw_in (tb_7 58 (by decide +kernel)) (by decide +kernel), gw_in (tb_0 63 (by decide +kernel)) (by decide +kernel), gw_in (tb_1 6 (by decide +kernel)) (by decide +kernel), gw_in (tb_7 59 (by decide +kernel)) (by decide +kernel), ⟨by decide +kernel, by decide +kernel⟩, by decide +kernel⟩
abbrev mX5_rowOf : MI := (yX5_rowOf, cX5_rowOf, 2, (some .int))
theorem vX5_rowOf : MV mX5_rowOf 1 RX5 := ⟨gw_in (tb_7 53 (by decide +kernel)) (by decide +kernel), gw_in (tb_7 54 (by decide +kernel)) (by decide +kernel), gw_in (tb_1 6 (by decide +kernel)) (by decide +kernel), gw_in (tb_7 55 (by decide +kernel)) (by decide +kernel), ⟨by decide +kernel, by decide +kernel⟩, by decide +kernel⟩
abbrev mX5_columnOf : MI := (yX5_columnOf, cX5_columnOf, 2, (some .int))
theorem vX5_columnOf : MV mX5_columnOf 1 RX5 := ⟨gw_in (tb_7 61 (by decide +kernel)) (by decide +kernel), gw_in (tb_7 62 (by decide +kernel)) (by decide +kernel), gw_in (tb_1 6 (by decide +kernel)) (by decide +kernel), gw_in (tb_7 63 (by decide +kernel)) (by decide +kernel), ⟨by decide +kernel, by decide +kernel⟩, by decide +kernel⟩
abbrev mX5_ratedPower : MI := (yX5_ratedPower, cX5_ratedPower, 2, (some .int))
theorem vX5_ratedPower : MV mX5_ratedPower 1 RX5 := ⟨gw_in (tb_7 65 (by decide +kernel)) (by decide +kernel), gw_in (tb_7 66 (by decide +kernel)) (by decide +kernel), gw_in (tb_1 6 (by decide +kernel)) (by decide +kernel), gw_in (tb_7 67 (by decide +kernel)) (by decide +kernel), ⟨by decide +kernel, by decide +kernel⟩, by decide +kernel⟩
abbrev mX5_isRunning : MI := (yX5_isRunning, cX5_isRunning, 2, (some .boolean))
theorem vX5_isRunning : MV mX5_isRunning 1 RX5 := ⟨gw_in (tb_7 69 (by decide +kernel)) (by decide +kernel), gw_in (tb_7 70 (by decide +kernel)) (by decide +kernel), gw_in (tb_1 6 (by decide +kernel)) (by decide +kernel), gw_in (tb_7 71 (by decide +kernel)) (by decide +kernel), ⟨by decide +kernel, by decide +kernel⟩, by decide +kernel⟩
abbrev mX5_isFailed : MI := (yX5_isFailed, cX5_isFailed, 2, (some .boolean))
theorem vX5_isFailed : MV mX5_isFailed 1 RX5 := ⟨gw_in (tb_7 73 (by decide +kernel)) (by decide +kernel), gw_in (tb_7 74 (by decide +kernel)) (by decide +kernel), gw_in (tb_1 6 (by decide +kernel)) (by decide +kernel), gw_in (tb_7 75 (by decide +kernel)) (by decide +kernel), ⟨by decide +kernel, by decide +kernel⟩, by decide +kernel⟩
abbrev mX5_isInService : MI := (yX5_isInService, cX5_isInService, 2, (some .boolean))
theorem vX5_isInService : MV mX5_isInService 1 RX5 := ⟨gw_in (tb_7 77 (by decide +kernel)) (by decide +kernel), gw_in (tb_7 78 (by decide +kernel)) (by decide +kernel), gw_in (tb_1 6 (by decide +kernel)) (by decide +kernel), gw_in (tb_7 79 (by decide +kernel)) (by decide +kernel), ⟨by decide +kernel, by decide +kernel⟩, by decide +kernel⟩
abbrev mX5_limitOf : MI := (yX5_limitOf, cX5_limitOf, 2, (some .int))
theorem vX5_limitOf : MV mX5_limitOf 1 RX5 := ⟨gw_in (tb_7 81 (by decide +kernel)) (by decide +kernel), gw_in (tb_7 82 (by decide +kernel)) (by decide +kernel), gw_in (tb_1 6 (by decide +kernel)) (by decide +kernel), gw_in (tb_7 83 (by decide +kernel)) (by decide +kernel), ⟨by decide +kernel, by decide +kernel⟩, by decide +kernel⟩
abbrev mX5_serviceHoursLeft : MI := (yX5_serviceHoursLeft, cX5_serviceHoursLeft, 2, (some .int))
theorem vX5_serviceHoursLeft : MV mX5_serviceHoursLeft 1 RX5 := ⟨gw_in (tb_7 85 (by decide +kernel)) (by decide +kernel), gw_in (tb_7 86 (by decide +kernel)) (by decide +kernel), gw_in (tb_1 6 (by decide +kernel)) (by decide +kernel), gw_in (tb_7 87 (by decide +kernel)) (by decide +kernel), ⟨by decide +kernel, by decide +kernel⟩, by decide +kernel⟩
abbrev mX5_freeCrews : MI := (yX5_freeCrews, cX5_freeCrews, 1, (some .int))
theorem vX5_freeCrews : MV mX5_freeCrews 0 RX5 := ⟨gw_in (tb_7 89 (by decide +kernel)) (by decide +kernel), gw_in (tb_7 90 (by decide +kernel)) (by decide +kernel), gw_in (tb_1 6 (by decide +kernel)) (by decide +kernel), gw_in (tb_7 91 (by decide +kernel)) (by decide +kernel), ⟨by decide +kernel, by decide +kernel⟩, by decide +kernel⟩
abbrev mX5_windDirection : MI := (yX5_windDirection, cX5_windDirection, 1, (some .char))
theorem vX5_windDirection : MV mX5_windDirection 0 RX5 := ⟨gw_in (tb_7 93 (by decide +kernel)) (by decide +kernel), gw_in (tb_7 94 (by decide +kernel)) (by decide +kernel), gw_in (tb_1 6 (by decide +kernel)) (by decide +kernel), gw_in (tb_7 95 (by decide +kernel)) (by decide +kernel), ⟨by decide +kernel, by decide +kernel⟩, by decide +kernel⟩
abbrev mX5_windSpeed : MI := (yX5_windSpeed, cX5_windSpeed, 1, (some .int))
theorem vX5_windSpeed : MV mX5_windSpeed 0 RX5 := ⟨gw_in (tb_7 100 (by decide +kernel)) (by decide +kernel), gw_in (tb_7 101 (by decide +kernel)) (by decide +kernel), gw_in (tb_1 6 (by decide +kernel)) (by decide +kernel), gw_in (tb_7 102 (by decide +kernel)) (by decide +kernel), ⟨by decide +kernel, by decide +kernel⟩, by decide +kernel⟩
abbrev mX5_powerFactor : MI := (yX5_powerFactor, cX5_powerFactor, 1, (some .int))
theorem vX5_powerFactor : MV mX5_powerFactor 0 RX5 := ⟨gw_in (tb_7 104 (by decide +kernel)) (by decide +kernel), gw_in (tb_7 105 (by decide +kernel)) (by decide +kernel), gw_in (tb_1 6 (by decide +kernel)) (by decide +kernel), gw_in (tb_7 106 (by decide +kernel)) (by decide +kernel), ⟨by decide +kernel, by decide +kernel⟩, by decide +kernel⟩
abbrev mX5_wakeLoss : MI := (yX5_wakeLoss, cX5_wakeLoss, 2, (some .int))
theorem vX5_wakeLoss : MV mX5_wakeLoss 1 RX5 := ⟨gw_in (tb_7 108 (by decide +kernel)) (by decide +kernel), gw_in (tb_7 109 (by decide +kernel)) (by decide +kernel), gw_in (tb_1 6 (by decide +kernel)) (by decide +kernel), gw_in (tb_7 110 (by decide +kernel)) (by decide +kernel), ⟨by decide +kernel, by decide +kernel⟩, by decide +kernel⟩
abbrev mX5_availablePower : MI := (yX5_availablePower, cX5_availablePower, 2, (some .int))
theorem vX5_availablePower : MV mX5_availablePower 1 RX5 := ⟨gw_in (tb_7 112 (by decide +kernel)) (by decide +kernel), gw_in (tb_7 113 (by decide +kernel)) (by decide +kernel), gw_in (tb_1 6 (by decide +kernel)) (by decide +kernel), gw_in (tb_7 114 (by decide +kernel)) (by decide +kernel), ⟨by decide +kernel, by decide +kernel⟩, by decide +kernel⟩
abbrev mX5_outputOf : MI := (yX5_outputOf, cX5_outputOf, 2, (some .int))
theorem vX5_outputOf : MV mX5_outputOf 1 RX5 := ⟨gw_in (tb_7 116 (by decide +kernel)) (by decide +kernel), gw_in (tb_7 117 (by decide +kernel)) (by decide +kernel), gw_in (tb_1 6 (by decide +kernel)) (by decide +kernel), gw_in (tb_7 118 (by decide +kernel)) (by decide +kernel), ⟨by decide +kernel, by decide +kernel⟩, by decide +kernel⟩
abbrev mX5_totalOutput : MI := (yX5_totalOutput, cX5_totalOutput, 1, (some .int))
theorem vX5_totalOutput : MV mX5_totalOutput 0 RX5 := ⟨gw_in (tb_7 120 (by decide +kernel)) (by decide +kernel), gw_in (tb_7 121 (by decide +kernel)) (by decide +kernel), gw_in (tb_1 6 (by decide +kernel)) (by decide +kernel), gw_in (tb_7 122 (by decide +kernel)) (by decide +kernel), ⟨by decide +kernel, by decide +kernel⟩, by decide +kernel⟩
abbrev mX5_totalOutputByLines : MI := (yX5_totalOutputByLines, cX5_totalOutputByLines, 1, (some .int))
theorem vX5_totalOutputByLines : MV mX5_totalOutputByLines 0 RX5 := ⟨gw_in (tb_7 124 (by decide +kernel)) (by decide +kernel), gw_in (tb_7 125 (by decide +kernel)) (by decide +kernel), gw_in (tb_1 6 (by decide +kernel)) (by decide +kernel), gw_in (tb_7 126 (by decide +kernel)) (by decide +kernel), ⟨by decide +kernel, by decide +kernel⟩, by decide +kernel⟩
abbrev mX5_totalWith : MI := (yX5_totalWith, cX5_totalWith, 6, (some .int))
theorem vX5_totalWith : MV mX5_totalWith 2 RX5 := ⟨gw_in (tb_7 134 (by decide +kernel)) (by decide +kernel), gw_in (tb_0 64 (by decide +kernel)) (by decide +kernel), gw_in (tb_1 6 (by decide +kernel)) (by decide +kernel), gw_in (tb_7 135 (by decide +kernel)) (by decide +kernel), ⟨by decide +kernel, by decide +kernel⟩, by decide +kernel⟩
abbrev mX5_outputWith : MI := (yX5_outputWith, cX5_outputWith, 3, (some .int))
theorem vX5_outputWith : MV mX5_outputWith 2 RX5 := ⟨gw_in (tb_7 129 (by decide +kernel)) (by decide +kernel), gw_in (tb_7 130 (by decide +kernel)) (by decide +kernel), gw_in (tb_1 6 (by decide +kernel)) (by decide +kernel), gw_in (tb_7 131 (by decide +kernel)) (by decide +kernel), ⟨by decide +kernel, by decide +kernel⟩, by decide +kernel⟩
abbrev mX5_bestDirection : MI := (yX5_bestDirection, cX5_bestDirection, 3, (some .char))
theorem vX5_bestDirection : MV mX5_bestDirection 0 RX5 := ⟨gw_in (tb_7 137 (by decide +kernel)) (by decide +kernel), gw_in (tb_7 138 (by decide +kernel)) (by decide +kernel), gw_in (tb_1 6 (by decide +kernel)) (by decide +kernel), gw_in (tb_7 139 (by decide +kernel)) (by decide +kernel), ⟨by decide +kernel, by decide +kernel⟩, by decide +kernel⟩
abbrev mX5_gridLimit : MI := (yX5_gridLimit, cX5_gridLimit, 1, (some .int))
theorem vX5_gridLimit : MV mX5_gridLimit 0 RX5 := ⟨gw_in (tb_7 141 (by decide +kernel)) (by decide +kernel), gw_in (tb_7 142 (by decide +kernel)) (by decide +kernel), gw_in (tb_1 6 (by decide +kernel)) (by decide +kernel), gw_in (tb_7 143 (by decide +kernel)) (by decide +kernel), ⟨by decide +kernel, by decide +kernel⟩, by decide +kernel⟩
abbrev mX5_hasBid : MI := (yX5_hasBid, cX5_hasBid, 2, (some .boolean))
theorem vX5_hasBid : MV mX5_hasBid 1 RX5 := ⟨gw_in (tb_7 145 (by decide +kernel)) (by decide +kernel), gw_in (tb_7 146 (by decide +kernel)) (by decide +kernel), gw_in (tb_1 6 (by decide +kernel)) (by decide +kernel), gw_in (tb_7 147 (by decide +kernel)) (by decide +kernel), ⟨by decide +kernel, by decide +kernel⟩, by decide +kernel⟩
abbrev mX5_isBid : MI := (yX5_isBid, cX5_isBid, 2, (some .boolean))
theorem vX5_isBid : MV mX5_isBid 1 RX5 := ⟨gw_in (tb_7 154 (by decide +kernel)) (by decide +kernel), gw_in (tb_0 65 (by decide +kernel)) (by decide +kernel), gw_in (tb_1 6 (by decide +kernel)) (by decide +kernel), gw_in (tb_7 155 (by decide +kernel)) (by decide +kernel), ⟨by decide +kernel, by decide +kernel⟩, by decide +kernel⟩
abbrev mX5_bidPrice : MI := (yX5_bidPrice, cX5_bidPrice, 2, (some .int))
theorem vX5_bidPrice : MV mX5_bidPrice 1 RX5 := ⟨gw_in (tb_7 149 (by decide +kernel)) (by decide +kernel), gw_in (tb_7 150 (by decide +kernel)) (by decide +kernel), gw_in (tb_1 6 (by decide +kernel)) (by decide +kernel), gw_in (tb_7 151 (by decide +kernel)) (by decide +kernel), ⟨by decide +kernel, by decide +kernel⟩, by decide +kernel⟩
abbrev mX5_bidQuantity : MI := (yX5_bidQuantity, cX5_bidQuantity, 2, (some .int))
theorem vX5_bidQuantity : MV mX5_bidQuantity 1 RX5 := ⟨gw_in (tb_7 157 (by decide +kernel)) (by decide +kernel), gw_in (tb_7 158 (by decide +kernel)) (by decide +kernel), gw_in (tb_1 6 (by decide +kernel)) (by decide +kernel), gw_in (tb_7 159 (by decide +kernel)) (by decide +kernel), ⟨by decide +kernel, by decide +kernel⟩, by decide +kernel⟩
abbrev mX5_bidByPrice : MI := (yX5_bidByPrice, cX5_bidByPrice, 7, (some .int))
theorem vX5_bidByPrice : MV mX5_bidByPrice 1 RX5 := ⟨gw_in (tb_7 161 (by decide +kernel)) (by decide +kernel), gw_in (tb_7 162 (by decide +kernel)) (by decide +kernel), gw_in (tb_1 6 (by decide +kernel)) (by decide +kernel), gw_in (tb_7 163 (by decide +kernel)) (by decide +kernel), ⟨by decide +kernel, by decide +kernel⟩, by decide +kernel⟩
abbrev mX5_time : MI := (yX5_time, cX5_time, 1, (some .int))
theorem vX5_time : MV mX5_time 0 RX5 := ⟨gw_in (tb_7 165 (by decide +kernel)) (by decide +kernel), gw_in (tb_7 166 (by decide +kernel)) (by decide +kernel), gw_in (tb_1 6 (by decide +kernel)) (by decide +kernel), gw_in (tb_7 167 (by decide +kernel)) (by decide +kernel), ⟨by decide +kernel, by decide +kernel⟩, by decide +kernel⟩
abbrev mX5_incomeWithin : MI := (yX5_incomeWithin, cX5_incomeWithin, 3, (some .int))
theorem vX5_incomeWithin : MV mX5_incomeWithin 1 RX5 := ⟨gw_in (tb_7 169 (by decide +kernel)) (by decide +kernel), gw_in (tb_7 170 (by decide +kernel)) (by decide +kernel), gw_in (tb_1 6 (by decide +kernel)) (by decide +kernel), gw_in (tb_7 171 (by decide +kernel)) (by decide +kernel), ⟨by decide +kernel, by decide +kernel⟩, by decide +kernel⟩
abbrev mX5_hoursToBid : MI := (yX5_hoursToBid, cX5_hoursToBid, 2, (some .int))
theorem vX5_hoursToBid : MV mX5_hoursToBid 0 RX5 := ⟨gw_in (tb_7 173 (by decide +kernel)) (by decide +kernel), gw_in (tb_7 174 (by decide +kernel)) (by decide +kernel), gw_in (tb_1 6 (by decide +kernel)) (by decide +kernel), gw_in (tb_7 175 (by decide +kernel)) (by decide +kernel), ⟨by decide +kernel, by decide +kernel⟩, by decide +kernel⟩
abbrev mX5_energyMade : MI := (yX5_energyMade, cX5_energyMade, 1, (some .long))
theorem vX5_energyMade : MV mX5_energyMade 0 RX5 := ⟨gw_in (tb_7 177 (by decide +kernel)) (by decide +kernel), gw_in (tb_7 178 (by decide +kernel)) (by decide +kernel), gw_in (tb_1 6 (by decide +kernel)) (by decide +kernel), gw_in (tb_7 179 (by decide +kernel)) (by decide +kernel), ⟨by decide +kernel, by decide +kernel⟩, by decide +kernel⟩
abbrev mX5_energyLost : MI := (yX5_energyLost, cX5_energyLost, 1, (some .long))
theorem vX5_energyLost : MV mX5_energyLost 0 RX5 := ⟨gw_in (tb_7 181 (by decide +kernel)) (by decide +kernel), gw_in (tb_7 182 (by decide +kernel)) (by decide +kernel), gw_in (tb_1 6 (by decide +kernel)) (by decide +kernel), gw_in (tb_7 183 (by decide +kernel)) (by decide +kernel), ⟨by decide +kernel, by decide +kernel⟩, by decide +kernel⟩
abbrev mX5_energySold : MI := (yX5_energySold, cX5_energySold, 1, (some .long))
theorem vX5_energySold : MV mX5_energySold 0 RX5 := ⟨gw_in (tb_7 185 (by decide +kernel)) (by decide +kernel), gw_in (tb_7 186 (by decide +kernel)) (by decide +kernel), gw_in (tb_1 6 (by decide +kernel)) (by decide +kernel), gw_in (tb_7 187 (by decide +kernel)) (by decide +kernel), ⟨by decide +kernel, by decide +kernel⟩, by decide +kernel⟩
abbrev mX5_energySpilled : MI := (yX5_energySpilled, cX5_energySpilled, 1, (some .long))
theorem vX5_energySpilled : MV mX5_energySpilled 0 RX5 := ⟨gw_in (tb_7 189 (by decide +kernel)) (by decide +kernel), gw_in (tb_7 190 (by decide +kernel)) (by decide +kernel), gw_in (tb_1 6 (by decide +kernel)) (by decide +kernel), gw_in (tb_7 191 (by decide +kernel)) (by decide +kernel), ⟨by decide +kernel, by decide +kernel⟩, by decide +kernel⟩
abbrev mX5_coins : MI := (yX5_coins, cX5_coins, 1, (some .long))
theorem vX5_coins : MV mX5_coins 0 RX5 := ⟨gw_in (tb_7 193 (by decide +kernel)) (by decide +kernel), gw_in (tb_7 194 (by decide +kernel)) (by decide +kernel), gw_in (tb_1 6 (by decide +kernel)) (by decide +kernel), gw_in (tb_7 195 (by decide +kernel)) (by decide +kernel), ⟨by decide +kernel, by decide +kernel⟩, by decide +kernel⟩
abbrev mX5_turbineByOutput : MI := (yX5_turbineByOutput, cX5_turbineByOutput, 7, (some .int))
theorem vX5_turbineByOutput : MV mX5_turbineByOutput 1 RX5 := ⟨gw_in (tb_7 197 (by decide +kernel)) (by decide +kernel), gw_in (tb_7 198 (by decide +kernel)) (by decide +kernel), gw_in (tb_1 6 (by decide +kernel)) (by decide +kernel), gw_in (tb_7 199 (by decide +kernel)) (by decide +kernel), ⟨by decide +kernel, by decide +kernel⟩, by decide +kernel⟩
abbrev mX5_meanOutput : MI := (yX5_meanOutput, cX5_meanOutput, 1, (some .double))
theorem vX5_meanOutput : MV mX5_meanOutput 0 RX5 := ⟨gw_in (tb_7 201 (by decide +kernel)) (by decide +kernel), gw_in (tb_7 202 (by decide +kernel)) (by decide +kernel), gw_in (tb_1 6 (by decide +kernel)) (by decide +kernel), gw_in (tb_7 203 (by decide +kernel)) (by decide +kernel), ⟨by decide +kernel, by decide +kernel⟩, by decide +kernel⟩
abbrev mX5_runningShare : MI := (yX5_runningShare, cX5_runningShare, 1, (some .float))
theorem vX5_runningShare : MV mX5_runningShare 0 RX5 := ⟨gw_in (tb_7 205 (by decide +kernel)) (by decide +kernel), gw_in (tb_7 206 (by decide +kernel)) (by decide +kernel), gw_in (tb_1 6 (by decide +kernel)) (by decide +kernel), gw_in (tb_7 207 (by decide +kernel)) (by decide +kernel), ⟨by decide +kernel, by decide +kernel⟩, by decide +kernel⟩
abbrev mX5_isConsistent : MI := (yX5_isConsistent, cX5_isConsistent, 1, (some .boolean))
theorem vX5_isConsistent : MV mX5_isConsistent 0 RX5 := ⟨gw_in (tb_7 209 (by decide +kernel)) (by decide +kernel), gw_in (tb_7 210 (by decide +kernel)) (by decide +kernel), gw_in (tb_1 6 (by decide +kernel)) (by decide +kernel), gw_in (tb_7 211 (by decide +kernel)) (by decide +kernel), ⟨by decide +kernel, by decide +kernel⟩, by decide +kernel⟩
abbrev mX5_writes : MI := (yX5_writes, cX5_writes, 2, none)
theorem vX5_writes : MV mX5_writes 1 RX5 := ⟨gw_in (tb_7 222 (by decide +kernel)) (by decide +kernel), gw_in (tb_0 67 (by decide +kernel)) (by decide +kernel), gw_in (tb_1 6 (by decide +kernel)) (by decide +kernel), gw_in (tb_7 223 (by decide +kernel)) (by decide +kernel), ⟨by decide +kernel, by decide +kernel⟩, by decide +kernel⟩
abbrev mX5_writesNumber : MI := (yX5_writesNumber, cX5_writesNumber, 2, none)
theorem vX5_writesNumber : MV mX5_writesNumber 1 RX5 := ⟨gw_in (tb_7 218 (by decide +kernel)) (by decide +kernel), gw_in (tb_0 66 (by decide +kernel)) (by decide +kernel), gw_in (tb_1 6 (by decide +kernel)) (by decide +kernel), gw_in (tb_7 219 (by decide +kernel)) (by decide +kernel), ⟨by decide +kernel, by decide +kernel⟩, by decide +kernel⟩
abbrev mX5_writesBehind : MI := (yX5_writesBehind, cX5_writesBehind, 3, none)
theorem vX5_writesBehind : MV mX5_writesBehind 2 RX5 := ⟨gw_in (tb_7 226 (by decide +kernel)) (by decide +kernel), gw_in (tb_0 68 (by decide +kernel)) (by decide +kernel), gw_in (tb_1 6 (by decide +kernel)) (by decide +kernel), gw_in (tb_7 227 (by decide +kernel)) (by decide +kernel), ⟨by decide +kernel, by decide +kernel⟩, by decide +kernel⟩
abbrev mX5_writeTurbine : MI := (yX5_writeTurbine, cX5_writeTurbine, 2, (some .int))
theorem vX5_writeTurbine : MV mX5_writeTurbine 1 RX5 := ⟨gw_in (tb_7 213 (by decide +kernel)) (by decide +kernel), gw_in (tb_7 214 (by decide +kernel)) (by decide +kernel), gw_in (tb_1 6 (by decide +kernel)) (by decide +kernel), gw_in (tb_7 215 (by decide +kernel)) (by decide +kernel), ⟨by decide +kernel, by decide +kernel⟩, by decide +kernel⟩
abbrev mX5_outputAt : MI := (yX5_outputAt, cX5_outputAt, 2, (some .char))
theorem vX5_outputAt : MV mX5_outputAt 1 RX5 := ⟨gw_in (tb_7 229 (by decide +kernel)) (by decide +kernel), gw_in (tb_7 230 (by decide +kernel)) (by decide +kernel), gw_in (tb_1 6 (by decide +kernel)) (by decide +kernel), gw_in (tb_7 231 (by decide +kernel)) (by decide +kernel), ⟨by decide +kernel, by decide +kernel⟩, by decide +kernel⟩
abbrev mX5_appendInput : MI := (yX5_appendInput, cX5_appendInput, 2, (some .int))
theorem vX5_appendInput : MV mX5_appendInput 1 RX5 := ⟨gw_in (tb_7 233 (by decide +kernel)) (by decide +kernel), gw_in (tb_7 234 (by decide +kernel)) (by decide +kernel), gw_in (tb_1 6 (by decide +kernel)) (by decide +kernel), gw_in (tb_7 235 (by decide +kernel)) (by decide +kernel), ⟨by decide +kernel, by decide +kernel⟩, by decide +kernel⟩
abbrev mX5_sign : MI := (yX5_sign, cX5_sign, 1, (some .int))
theorem vX5_sign : MV mX5_sign 0 RX5 := ⟨gw_in (tb_8 10 (by decide +kernel)) (by decide +kernel), gw_in (tb_0 71 (by decide +kernel)) (by decide +kernel), gw_in (tb_1 6 (by decide +kernel)) (by decide +kernel), gw_in (tb_8 11 (by decide +kernel)) (by decide +kernel), ⟨by decide +kernel, by decide +kernel⟩, by decide +kernel⟩
abbrev mX5_needs : MI := (yX5_needs, cX5_needs, 2, none)
theorem vX5_needs : MV mX5_needs 1 RX5 := ⟨gw_in (tb_8 29 (by decide +kernel)) (by decide +kernel), gw_in (tb_0 75 (by decide +kernel)) (by decide +kernel), gw_in (tb_1 6 (by decide +kernel)) (by decide +kernel), gw_in (tb_8 30 (by decide +kernel)) (by decide +kernel), ⟨by decide +kernel, by decide +kernel⟩, by decide +kernel⟩
abbrev mX5_number : MI := (yX5_number, cX5_number, 4, (some .int))
theorem vX5_number : MV mX5_number 1 RX5 := ⟨gw_in (tb_8 17 (by decide +kernel)) (by decide +kernel), gw_in (tb_0 72 (by decide +kernel)) (by decide +kernel), gw_in (tb_1 6 (by decide +kernel)) (by decide +kernel), gw_in (tb_8 18 (by decide +kernel)) (by decide +kernel), ⟨by decide +kernel, by decide +kernel⟩, by decide +kernel⟩
abbrev mX5_behind : MI := (yX5_behind, cX5_behind, 2, (some .int))
theorem vX5_behind : MV mX5_behind 1 RX5 := ⟨gw_in (tb_8 25 (by decide +kernel)) (by decide +kernel), gw_in (tb_0 74 (by decide +kernel)) (by decide +kernel), gw_in (tb_1 6 (by decide +kernel)) (by decide +kernel), gw_in (tb_8 26 (by decide +kernel)) (by decide +kernel), ⟨by decide +kernel, by decide +kernel⟩, by decide +kernel⟩
abbrev mX5_way : MI := (yX5_way, cX5_way, 2, (some .int))
theorem vX5_way : MV mX5_way 0 RX5 := ⟨gw_in (tb_8 21 (by decide +kernel)) (by decide +kernel), gw_in (tb_0 73 (by decide +kernel)) (by decide +kernel), gw_in (tb_1 6 (by decide +kernel)) (by decide +kernel), gw_in (tb_8 22 (by decide +kernel)) (by decide +kernel), ⟨by decide +kernel, by decide +kernel⟩, by decide +kernel⟩
abbrev mX5_isLetter : MI := (yX5_isLetter, cX5_isLetter, 1, (some .boolean))
theorem vX5_isLetter : MS mX5_isLetter 1 := ⟨gw_in (tb_8 13 (by decide +kernel)) (by decide +kernel), gw_in (tb_1 6 (by decide +kernel)) (by decide +kernel), gw_in (tb_8 14 (by decide +kernel)) (by decide +kernel), ⟨by decide +kernel, by decide +kernel⟩, by decide +kernel⟩
abbrev mX5_command : MI := (yX5_command, cX5_command, 4, none)
theorem vX5_command : MV mX5_command 0 RX5 := ⟨gw_in (tb_8 6 (by decide +kernel)) (by decide +kernel), gw_in (tb_0 70 (by decide +kernel)) (by decide +kernel), gw_in (tb_1 6 (by decide +kernel)) (by decide +kernel), gw_in (tb_8 7 (by decide +kernel)) (by decide +kernel), ⟨by decide +kernel, by decide +kernel⟩, by decide +kernel⟩
abbrev mX5_parse : MI := (yX5_parse, cX5_parse, 1, none)
theorem vX5_parse : MV mX5_parse 0 RX5 := ⟨gw_in (tb_8 2 (by decide +kernel)) (by decide +kernel), gw_in (tb_0 69 (by decide +kernel)) (by decide +kernel), gw_in (tb_1 6 (by decide +kernel)) (by decide +kernel), gw_in (tb_8 3 (by decide +kernel)) (by decide +kernel), ⟨by decide +kernel, by decide +kernel⟩, by decide +kernel⟩
abbrev mX5_does : MI := (yX5_does, cX5_does, 5, (some .int))
theorem vX5_does : MV mX5_does 1 RX5 := ⟨gw_in (tb_8 33 (by decide +kernel)) (by decide +kernel), gw_in (tb_0 76 (by decide +kernel)) (by decide +kernel), gw_in (tb_1 6 (by decide +kernel)) (by decide +kernel), gw_in (tb_8 34 (by decide +kernel)) (by decide +kernel), ⟨by decide +kernel, by decide +kernel⟩, by decide +kernel⟩
abbrev mX5_execute : MI := (yX5_execute, cX5_execute, 3, (some .int))
theorem vX5_execute : MV mX5_execute 0 RX5 := ⟨gw_in (tb_7 237 (by decide +kernel)) (by decide +kernel), gw_in (tb_7 238 (by decide +kernel)) (by decide +kernel), gw_in (tb_1 6 (by decide +kernel)) (by decide +kernel), gw_in (tb_7 239 (by decide +kernel)) (by decide +kernel), ⟨by decide +kernel, by decide +kernel⟩, by decide +kernel⟩
abbrev mX5_syntaxErrorOffset : MI := (yX5_syntaxErrorOffset, cX5_syntaxErrorOffset, 1, (some .int))
theorem vX5_syntaxErrorOffset : MV mX5_syntaxErrorOffset 0 RX5 := ⟨gw_in (tb_8 36 (by decide +kernel)) (by decide +kernel), gw_in (tb_8 37 (by decide +kernel)) (by decide +kernel), gw_in (tb_1 6 (by decide +kernel)) (by decide +kernel), gw_in (tb_8 38 (by decide +kernel)) (by decide +kernel), ⟨by decide +kernel, by decide +kernel⟩, by decide +kernel⟩
abbrev mX5_undo : MI := (yX5_undo, cX5_undo, 1, (some .int))
theorem vX5_undo : MV mX5_undo 0 RX5 := ⟨gw_in (tb_8 40 (by decide +kernel)) (by decide +kernel), gw_in (tb_8 41 (by decide +kernel)) (by decide +kernel), gw_in (tb_1 6 (by decide +kernel)) (by decide +kernel), gw_in (tb_8 42 (by decide +kernel)) (by decide +kernel), ⟨by decide +kernel, by decide +kernel⟩, by decide +kernel⟩
abbrev mX5_saveSnapshot : MI := (yX5_saveSnapshot, cX5_saveSnapshot, 1, (some .int))
theorem vX5_saveSnapshot : MV mX5_saveSnapshot 0 RX5 := ⟨gw_in (tb_8 44 (by decide +kernel)) (by decide +kernel), gw_in (tb_8 45 (by decide +kernel)) (by decide +kernel), gw_in (tb_1 6 (by decide +kernel)) (by decide +kernel), gw_in (tb_8 46 (by decide +kernel)) (by decide +kernel), ⟨by decide +kernel, by decide +kernel⟩, by decide +kernel⟩
abbrev mX5_restoreSnapshot : MI := (yX5_restoreSnapshot, cX5_restoreSnapshot, 1, (some .int))
theorem vX5_restoreSnapshot : MV mX5_restoreSnapshot 0 RX5 := ⟨gw_in (tb_8 48 (by decide +kernel)) (by decide +kernel), gw_in (tb_8 49 (by decide +kernel)) (by decide +kernel), gw_in (tb_1 6 (by decide +kernel)) (by decide +kernel), gw_in (tb_8 50 (by decide +kernel)) (by decide +kernel), ⟨by decide +kernel, by decide +kernel⟩, by decide +kernel⟩
theorem lX4_1 : Cond.methodLink RX4 1 objectInit ∈ gw := gw_in (tb_1 27 (by decide +kernel)) (by decide +kernel)
theorem lX4_7 : Cond.classLink RX4 7 "WindFarmDispatcher$Farm" ∈ gw := gw_in (tb_1 30 (by decide +kernel)) (by decide +kernel)
theorem lX4_9 : Cond.methodLinkNest RX4 9 yX1_init "WindFarmDispatcher" ∈ nw := nw_in (tb_1 32 (by decide +kernel)) (by decide +kernel)
theorem lX4_22 : Cond.classLink RX4 22 "WindFarmDispatcher$History" ∈ gw := gw_in (tb_1 112 (by decide +kernel)) (by decide +kernel)
theorem lX4_24 : Cond.methodLink RX4 24 yX2_init ∈ gw := gw_in (tb_1 114 (by decide +kernel)) (by decide +kernel)
theorem lX4_29 : Cond.classLink RX4 29 "WindFarmDispatcher$CommandReader" ∈ gw := gw_in (tb_1 132 (by decide +kernel)) (by decide +kernel)
theorem lX4_31 : Cond.methodLinkNest RX4 31 yX0_init "WindFarmDispatcher" ∈ nw := nw_in (tb_1 134 (by decide +kernel)) (by decide +kernel)
theorem lX4_36 : Cond.classLink RX4 36 "WindFarmDispatcher$Text" ∈ gw := gw_in (tb_1 173 (by decide +kernel)) (by decide +kernel)
theorem lX4_38 : Cond.methodLinkNest RX4 38 yX3_init "WindFarmDispatcher" ∈ nw := nw_in (tb_1 174 (by decide +kernel)) (by decide +kernel)
theorem lX4_47 : Cond.methodLink RX4 47 yX4_admit ∈ gw := gw_in (tb_2 130 (by decide +kernel)) (by decide +kernel)
theorem lX4_51 : Cond.methodLink RX4 51 yX1_add ∈ gw := gw_in (tb_3 163 (by decide +kernel)) (by decide +kernel)
theorem lX4_55 : Cond.methodLink RX4 55 yX1_breakDown ∈ gw := gw_in (tb_3 174 (by decide +kernel)) (by decide +kernel)
theorem lX4_59 : Cond.methodLink RX4 59 yX1_startService ∈ gw := gw_in (tb_3 185 (by decide +kernel)) (by decide +kernel)
theorem lX4_63 : Cond.methodLink RX4 63 yX1_stopService ∈ gw := gw_in (tb_3 197 (by decide +kernel)) (by decide +kernel)
theorem lX4_66 : Cond.methodLink RX4 66 yX1_changeLimit ∈ gw := gw_in (tb_3 208 (by decide +kernel)) (by decide +kernel)
theorem lX4_69 : Cond.methodLink RX4 69 yX1_endLimit ∈ gw := gw_in (tb_3 219 (by decide +kernel)) (by decide +kernel)
theorem lX4_75 : Cond.methodLink RX4 75 yX4_isCell ∈ gw := gw_in (tb_3 232 (by decide +kernel)) (by decide +kernel)
theorem lX4_79 : Cond.classLink RX4 79 "java/lang/IndexOutOfBoundsException" ∈ gw := gw_in (tb_2 182 (by decide +kernel)) (by decide +kernel)
theorem lX4_83 : Cond.methodLink RX4 83 ⟨"java/lang/IndexOutOfBoundsException", "<init>", "(Ljava/lang/String;)V"⟩ ∈ gw := gw_in (tb_2 228 (by decide +kernel)) (by decide +kernel)
theorem lX4_86 : Cond.methodLink RX4 86 yX1_turbineIn ∈ gw := gw_in (tb_3 234 (by decide +kernel)) (by decide +kernel)
theorem lX4_89 : Cond.classLink RX4 89 "java/util/NoSuchElementException" ∈ gw := gw_in (tb_3 235 (by decide +kernel)) (by decide +kernel)
theorem lX4_93 : Cond.methodLink RX4 93 ⟨"java/util/NoSuchElementException", "<init>", "(Ljava/lang/String;)V"⟩ ∈ gw := gw_in (tb_4 5 (by decide +kernel)) (by decide +kernel)
theorem lX4_94 : Cond.methodLink RX4 94 yX4_requireTurbine ∈ gw := gw_in (tb_4 18 (by decide +kernel)) (by decide +kernel)
theorem lX4_102 : Cond.methodLink RX4 102 yX4_valueAt ∈ gw := gw_in (tb_4 24 (by decide +kernel)) (by decide +kernel)
theorem lX4_112 : Cond.methodLink RX4 112 yX1_isInState ∈ gw := gw_in (tb_4 46 (by decide +kernel)) (by decide +kernel)
theorem lX4_115 : Cond.methodLink RX4 115 yX1_isCurtailed ∈ gw := gw_in (tb_4 68 (by decide +kernel)) (by decide +kernel)
theorem lX4_129 : Cond.methodLink RX4 129 yX1_crewsLeft ∈ gw := gw_in (tb_1 217 (by decide +kernel)) (by decide +kernel)
theorem lX4_133 : Cond.methodLink RX4 133 yX1_turnWind ∈ gw := gw_in (tb_4 85 (by decide +kernel)) (by decide +kernel)
theorem lX4_144 : Cond.methodLink RX4 144 yX4_factorOf ∈ gw := gw_in (tb_2 1 (by decide +kernel)) (by decide +kernel)
theorem lX4_147 : Cond.methodLink RX4 147 yX1_lossIn ∈ gw := gw_in (tb_4 96 (by decide +kernel)) (by decide +kernel)
theorem lX4_151 : Cond.methodLink RX4 151 yX1_powerAfter ∈ gw := gw_in (tb_4 104 (by decide +kernel)) (by decide +kernel)
theorem lX4_154 : Cond.methodLink RX4 154 yX1_outputIn ∈ gw := gw_in (tb_4 112 (by decide +kernel)) (by decide +kernel)
theorem lX4_158 : Cond.methodLink RX4 158 yX1_sumIn ∈ gw := gw_in (tb_2 8 (by decide +kernel)) (by decide +kernel)
theorem lX4_161 : Cond.methodLink RX4 161 yX1_sumByLines ∈ gw := gw_in (tb_2 48 (by decide +kernel)) (by decide +kernel)
theorem lX4_164 : Cond.methodLink RX4 164 yX4_isWind ∈ gw := gw_in (tb_4 120 (by decide +kernel)) (by decide +kernel)
theorem lX4_167 : Cond.classLink RX4 167 "java/lang/IllegalArgumentException" ∈ gw := gw_in (tb_3 13 (by decide +kernel)) (by decide +kernel)
theorem lX4_171 : Cond.methodLink RX4 171 ⟨"java/lang/IllegalArgumentException", "<init>", "(Ljava/lang/String;)V"⟩ ∈ gw := gw_in (tb_3 23 (by decide +kernel)) (by decide +kernel)
theorem lX4_174 : Cond.methodLink RX4 174 yJ0_length_8abf5 ∈ gw := gw_in (tb_2 73 (by decide +kernel)) (by decide +kernel)
theorem lX4_179 : Cond.methodLink RX4 179 yJ0_charAt_5068e ∈ gw := gw_in (tb_2 83 (by decide +kernel)) (by decide +kernel)
theorem lX4_183 : Cond.methodLink RX4 183 yX1_changeGridLimit ∈ gw := gw_in (tb_4 129 (by decide +kernel)) (by decide +kernel)
theorem lX4_189 : Cond.methodLink RX4 189 yX1_limitToGrid ∈ gw := gw_in (tb_3 77 (by decide +kernel)) (by decide +kernel)
theorem lX4_192 : Cond.methodLink RX4 192 yX1_endAllLimits ∈ gw := gw_in (tb_3 96 (by decide +kernel)) (by decide +kernel)
theorem lX4_195 : Cond.methodLink RX4 195 yX1_addBid ∈ gw := gw_in (tb_4 140 (by decide +kernel)) (by decide +kernel)
theorem lX4_198 : Cond.methodLink RX4 198 yX1_removeBid ∈ gw := gw_in (tb_4 151 (by decide +kernel)) (by decide +kernel)
theorem lX4_201 : Cond.methodLink RX4 201 yX4_requireHour ∈ gw := gw_in (tb_4 162 (by decide +kernel)) (by decide +kernel)
theorem lX4_204 : Cond.methodLink RX4 204 yX1_isBidFor ∈ gw := gw_in (tb_4 168 (by decide +kernel)) (by decide +kernel)
theorem lX4_207 : Cond.methodLink RX4 207 yX4_requireBid ∈ gw := gw_in (tb_4 176 (by decide +kernel)) (by decide +kernel)
theorem lX4_216 : Cond.methodLink RX4 216 yX1_bidsAheadOf ∈ gw := gw_in (tb_4 195 (by decide +kernel)) (by decide +kernel)
theorem lX4_221 : Cond.methodLink RX4 221 yX1_pass ∈ gw := gw_in (tb_4 211 (by decide +kernel)) (by decide +kernel)
theorem lX4_227 : Cond.methodLink RX4 227 yX4_isWithin ∈ gw := gw_in (tb_2 145 (by decide +kernel)) (by decide +kernel)
theorem lX4_233 : Cond.methodLink RX4 233 yX1_copyFrom ∈ gw := gw_in (tb_3 132 (by decide +kernel)) (by decide +kernel)
theorem lX4_255 : Cond.methodLink RX4 255 yX1_turbinesAheadOf ∈ gw := gw_in (tb_5 6 (by decide +kernel)) (by decide +kernel)
theorem lX4_260 : Cond.classLink RX4 260 "java/lang/ArithmeticException" ∈ gw := gw_in (tb_5 36 (by decide +kernel)) (by decide +kernel)
theorem lX4_264 : Cond.methodLink RX4 264 ⟨"java/lang/ArithmeticException", "<init>", "(Ljava/lang/String;)V"⟩ ∈ gw := gw_in (tb_5 38 (by decide +kernel)) (by decide +kernel)
theorem lX4_265 : Cond.methodLink RX4 265 yX1_countInState ∈ gw := gw_in (tb_5 46 (by decide +kernel)) (by decide +kernel)
theorem lX4_268 : Cond.methodLink RX4 268 yX3_clear ∈ gw := gw_in (tb_5 54 (by decide +kernel)) (by decide +kernel)
theorem lX4_271 : Cond.methodLink RX4 271 yX3_addNumber ∈ gw := gw_in (tb_5 58 (by decide +kernel)) (by decide +kernel)
theorem lX4_274 : Cond.methodLink RX4 274 yX4_writeNumber ∈ gw := gw_in (tb_5 66 (by decide +kernel)) (by decide +kernel)
theorem lX4_278 : Cond.methodLink RX4 278 yX3_add ∈ gw := gw_in (tb_5 70 (by decide +kernel)) (by decide +kernel)
theorem lX4_285 : Cond.methodLink RX4 285 yX3_signAt ∈ gw := gw_in (tb_5 79 (by decide +kernel)) (by decide +kernel)
theorem lX4_293 : Cond.classLink RX4 293 "java/lang/IllegalStateException" ∈ gw := gw_in (tb_5 92 (by decide +kernel)) (by decide +kernel)
theorem lX4_297 : Cond.methodLink RX4 297 ⟨"java/lang/IllegalStateException", "<init>", "(Ljava/lang/String;)V"⟩ ∈ gw := gw_in (tb_5 102 (by decide +kernel)) (by decide +kernel)
theorem lX4_298 : Cond.methodLink RX4 298 yX0_countCommands ∈ gw := gw_in (tb_5 115 (by decide +kernel)) (by decide +kernel)
theorem lX4_306 : Cond.methodLink RX4 306 yX0_restart ∈ gw := gw_in (tb_5 163 (by decide +kernel)) (by decide +kernel)
theorem lX4_309 : Cond.methodLink RX4 309 yX0_readNext ∈ gw := gw_in (tb_5 164 (by decide +kernel)) (by decide +kernel)
theorem lX4_313 : Cond.methodLink RX4 313 yX0_argument ∈ gw := gw_in (tb_5 165 (by decide +kernel)) (by decide +kernel)
theorem lX4_319 : Cond.methodLink RX4 319 yX1_judge ∈ gw := gw_in (tb_2 134 (by decide +kernel)) (by decide +kernel)
theorem lX4_323 : Cond.methodLink RX4 323 yX4_refuseCommand ∈ gw := gw_in (tb_5 170 (by decide +kernel)) (by decide +kernel)
theorem lX4_327 : Cond.methodLink RX4 327 yX1_carryOut ∈ gw := gw_in (tb_5 176 (by decide +kernel)) (by decide +kernel)
theorem lX4_330 : Cond.methodLink RX4 330 yX2_keep ∈ gw := gw_in (tb_3 61 (by decide +kernel)) (by decide +kernel)
theorem lX4_335 : Cond.methodLink RX4 335 yX4_requireRejection ∈ gw := gw_in (tb_5 207 (by decide +kernel)) (by decide +kernel)
theorem lX4_354 : Cond.methodLink RX4 354 yX2_takeBack ∈ gw := gw_in (tb_5 235 (by decide +kernel)) (by decide +kernel)
theorem lX4_363 : Cond.methodLink RX4 363 yX2_forget ∈ gw := gw_in (tb_6 7 (by decide +kernel)) (by decide +kernel)
theorem lX4_370 : Cond.methodLink RX4 370 yX1_detailOf ∈ gw := gw_in (tb_3 29 (by decide +kernel)) (by decide +kernel)
theorem lX4_373 : Cond.methodLink RX4 373 yX4_reject ∈ gw := gw_in (tb_3 41 (by decide +kernel)) (by decide +kernel)
theorem lX4_377 : Cond.classLink RX4 377 "java/lang/UnsupportedOperationException" ∈ gw := gw_in (tb_3 45 (by decide +kernel)) (by decide +kernel)
theorem lX4_381 : Cond.methodLink RX4 381 ⟨"java/lang/UnsupportedOperationException", "<init>", "(Ljava/lang/String;)V"⟩ ∈ gw := gw_in (tb_3 55 (by decide +kernel)) (by decide +kernel)
theorem lX4_386 : Cond.methodLink RX4 386 yX1_hasTurbine ∈ gw := gw_in (tb_4 22 (by decide +kernel)) (by decide +kernel)
theorem lX4_391 : Cond.methodLink RX4 391 yX4_isHourOfDay ∈ gw := gw_in (tb_4 166 (by decide +kernel)) (by decide +kernel)
theorem lX4_400 : Cond.methodLink RX4 400 yX4_isDirection ∈ gw := gw_in (tb_2 179 (by decide +kernel)) (by decide +kernel)
theorem lX0_3 : Cond.methodLink RX0 3 objectInit ∈ gw := gw_in (tb_1 137 (by decide +kernel)) (by decide +kernel)
theorem lX0_9 : Cond.classLink RX0 9 "WindFarmDispatcher$Text" ∈ gw := gw_in (tb_1 138 (by decide +kernel)) (by decide +kernel)
theorem lX0_11 : Cond.methodLinkNest RX0 11 yX3_init "WindFarmDispatcher" ∈ nw := nw_in (tb_1 140 (by decide +kernel)) (by decide +kernel)
theorem lX0_29 : Cond.methodLinkNest RX0 29 yX4_valueAt "WindFarmDispatcher" ∈ nw := nw_in (tb_5 169 (by decide +kernel)) (by decide +kernel)
theorem lX0_33 : Cond.methodLink RX0 33 yX0_restart ∈ gw := gw_in (tb_5 119 (by decide +kernel)) (by decide +kernel)
theorem lX0_36 : Cond.methodLink RX0 36 yX0_readNext ∈ gw := gw_in (tb_5 123 (by decide +kernel)) (by decide +kernel)
theorem lX0_43 : Cond.methodLink RX0 43 yX0_readSign ∈ gw := gw_in (tb_5 127 (by decide +kernel)) (by decide +kernel)
theorem lX0_47 : Cond.methodLink RX0 47 yX3_signAt ∈ gw := gw_in (tb_5 131 (by decide +kernel)) (by decide +kernel)
theorem lX0_51 : Cond.methodLink RX0 51 yX0_partsOf ∈ gw := gw_in (tb_5 132 (by decide +kernel)) (by decide +kernel)
theorem lX0_59 : Cond.methodLink RX0 59 yJ0_length_8abf5 ∈ gw := gw_in (tb_5 141 (by decide +kernel)) (by decide +kernel)
theorem lX0_64 : Cond.methodLink RX0 64 yJ0_charAt_5068e ∈ gw := gw_in (tb_5 142 (by decide +kernel)) (by decide +kernel)
theorem lX0_67 : Cond.methodLink RX0 67 yX0_readPart ∈ gw := gw_in (tb_5 143 (by decide +kernel)) (by decide +kernel)
theorem lX0_82 : Cond.methodLink RX0 82 yX0_readDigits ∈ gw := gw_in (tb_5 147 (by decide +kernel)) (by decide +kernel)
theorem lX0_86 : Cond.methodLink RX0 86 yX0_readDirection ∈ gw := gw_in (tb_5 157 (by decide +kernel)) (by decide +kernel)
theorem lX0_89 : Cond.methodLinkNest RX0 89 yX4_isWithin "WindFarmDispatcher" ∈ nw := nw_in (tb_5 151 (by decide +kernel)) (by decide +kernel)
theorem lX0_93 : Cond.methodLink RX0 93 yX0_keepArgument ∈ gw := gw_in (tb_5 152 (by decide +kernel)) (by decide +kernel)
theorem lX0_97 : Cond.methodLinkNest RX0 97 yX4_isDirection "WindFarmDispatcher" ∈ nw := nw_in (tb_5 161 (by decide +kernel)) (by decide +kernel)
theorem lX0_100 : Cond.methodLinkNest RX0 100 yX4_setValue "WindFarmDispatcher" ∈ nw := nw_in (tb_5 156 (by decide +kernel)) (by decide +kernel)
theorem lX1_5 : Cond.methodLink RX1 5 objectInit ∈ gw := gw_in (tb_1 35 (by decide +kernel)) (by decide +kernel)
theorem lX1_47 : Cond.methodLink RX1 47 yX1_copyRow ∈ gw := gw_in (tb_3 73 (by decide +kernel)) (by decide +kernel)
theorem lX1_76 : Cond.methodLink RX1 76 yX1_placeOf ∈ gw := gw_in (tb_2 23 (by decide +kernel)) (by decide +kernel)
theorem lX1_80 : Cond.methodLinkNest RX1 80 yX4_valueAt "WindFarmDispatcher" ∈ nw := nw_in (tb_2 20 (by decide +kernel)) (by decide +kernel)
theorem lX1_84 : Cond.methodLink RX1 84 yX1_isInState ∈ gw := gw_in (tb_1 225 (by decide +kernel)) (by decide +kernel)
theorem lX1_88 : Cond.methodLink RX1 88 yX1_countInState ∈ gw := gw_in (tb_1 221 (by decide +kernel)) (by decide +kernel)
theorem lX1_92 : Cond.methodLink RX1 92 yX1_isBidFor ∈ gw := gw_in (tb_2 172 (by decide +kernel)) (by decide +kernel)
theorem lX1_96 : Cond.methodLink RX1 96 yX1_stepTowards ∈ gw := gw_in (tb_2 26 (by decide +kernel)) (by decide +kernel)
theorem lX1_100 : Cond.methodLink RX1 100 yX1_wakeOf ∈ gw := gw_in (tb_2 29 (by decide +kernel)) (by decide +kernel)
theorem lX1_104 : Cond.methodLinkNest RX1 104 yX4_factorOf "WindFarmDispatcher" ∈ nw := nw_in (tb_2 36 (by decide +kernel)) (by decide +kernel)
theorem lX1_107 : Cond.methodLink RX1 107 Lib.Math.min.name ∈ gw := gw_in (tb_2 41 (by decide +kernel)) (by decide +kernel)
theorem lX1_112 : Cond.methodLink RX1 112 yX1_lossIn ∈ gw := gw_in (tb_2 16 (by decide +kernel)) (by decide +kernel)
theorem lX1_116 : Cond.methodLink RX1 116 yX1_powerAfter ∈ gw := gw_in (tb_2 32 (by decide +kernel)) (by decide +kernel)
theorem lX1_120 : Cond.methodLink RX1 120 yX1_limited ∈ gw := gw_in (tb_2 37 (by decide +kernel)) (by decide +kernel)
theorem lX1_123 : Cond.methodLink RX1 123 yX1_outputIn ∈ gw := gw_in (tb_2 12 (by decide +kernel)) (by decide +kernel)
theorem lX1_127 : Cond.methodLink RX1 127 yX1_blowsAlongColumns ∈ gw := gw_in (tb_2 52 (by decide +kernel)) (by decide +kernel)
theorem lX1_131 : Cond.methodLink RX1 131 yX1_sumOfLine ∈ gw := gw_in (tb_2 56 (by decide +kernel)) (by decide +kernel)
theorem lX1_134 : Cond.methodLink RX1 134 yX1_turbineInLine ∈ gw := gw_in (tb_2 60 (by decide +kernel)) (by decide +kernel)
theorem lX1_137 : Cond.methodLink RX1 137 yX1_turbineIn ∈ gw := gw_in (tb_2 64 (by decide +kernel)) (by decide +kernel)
theorem lX1_140 : Cond.methodLink RX1 140 yX1_isTurbineAhead ∈ gw := gw_in (tb_5 10 (by decide +kernel)) (by decide +kernel)
theorem lX1_143 : Cond.methodLink RX1 143 yX1_isBidAhead ∈ gw := gw_in (tb_4 199 (by decide +kernel)) (by decide +kernel)
theorem lX1_146 : Cond.methodLink RX1 146 yX1_judgeAdding ∈ gw := gw_in (tb_2 138 (by decide +kernel)) (by decide +kernel)
theorem lX1_149 : Cond.methodLink RX1 149 yX1_hasTurbine ∈ gw := gw_in (tb_2 149 (by decide +kernel)) (by decide +kernel)
theorem lX1_152 : Cond.methodLink RX1 152 yX1_judgeTurbine ∈ gw := gw_in (tb_2 153 (by decide +kernel)) (by decide +kernel)
theorem lX1_156 : Cond.methodLinkNest RX1 156 yX4_isHourOfDay "WindFarmDispatcher" ∈ nw := nw_in (tb_2 165 (by decide +kernel)) (by decide +kernel)
theorem lX1_159 : Cond.methodLink RX1 159 yX1_judgeBid ∈ gw := gw_in (tb_2 168 (by decide +kernel)) (by decide +kernel)
theorem lX1_163 : Cond.methodLinkNest RX1 163 yX4_isWind "WindFarmDispatcher" ∈ nw := nw_in (tb_2 176 (by decide +kernel)) (by decide +kernel)
theorem lX1_166 : Cond.methodLinkNest RX1 166 yX4_isWithin "WindFarmDispatcher" ∈ nw := nw_in (tb_2 148 (by decide +kernel)) (by decide +kernel)
theorem lX1_170 : Cond.methodLinkNest RX1 170 yX4_isCell "WindFarmDispatcher" ∈ nw := nw_in (tb_2 142 (by decide +kernel)) (by decide +kernel)
theorem lX1_173 : Cond.methodLink RX1 173 yX1_judgeSending ∈ gw := gw_in (tb_2 157 (by decide +kernel)) (by decide +kernel)
theorem lX1_176 : Cond.methodLink RX1 176 yX1_isCurtailed ∈ gw := gw_in (tb_2 161 (by decide +kernel)) (by decide +kernel)
theorem lX1_179 : Cond.methodLink RX1 179 yX1_firstInService ∈ gw := gw_in (tb_3 33 (by decide +kernel)) (by decide +kernel)
theorem lX1_183 : Cond.methodLink RX1 183 yX1_countBids ∈ gw := gw_in (tb_3 37 (by decide +kernel)) (by decide +kernel)
theorem lX1_186 : Cond.methodLink RX1 186 yX1_add ∈ gw := gw_in (tb_5 180 (by decide +kernel)) (by decide +kernel)
theorem lX1_189 : Cond.methodLink RX1 189 yX1_breakDown ∈ gw := gw_in (tb_5 181 (by decide +kernel)) (by decide +kernel)
theorem lX1_192 : Cond.methodLink RX1 192 yX1_startService ∈ gw := gw_in (tb_5 182 (by decide +kernel)) (by decide +kernel)
theorem lX1_195 : Cond.methodLink RX1 195 yX1_stopService ∈ gw := gw_in (tb_5 183 (by decide +kernel)) (by decide +kernel)
theorem lX1_198 : Cond.methodLink RX1 198 yX1_changeLimit ∈ gw := gw_in (tb_3 223 (by decide +kernel)) (by decide +kernel)
theorem lX1_201 : Cond.methodLink RX1 201 yX1_endLimit ∈ gw := gw_in (tb_5 184 (by decide +kernel)) (by decide +kernel)
theorem lX1_204 : Cond.methodLink RX1 204 yX1_turnWind ∈ gw := gw_in (tb_5 185 (by decide +kernel)) (by decide +kernel)
theorem lX1_208 : Cond.methodLink RX1 208 yX1_changeGridLimit ∈ gw := gw_in (tb_5 186 (by decide +kernel)) (by decide +kernel)
theorem lX1_211 : Cond.methodLink RX1 211 yX1_limitToGrid ∈ gw := gw_in (tb_5 187 (by decide +kernel)) (by decide +kernel)
theorem lX1_214 : Cond.methodLink RX1 214 yX1_endAllLimits ∈ gw := gw_in (tb_5 188 (by decide +kernel)) (by decide +kernel)
theorem lX1_217 : Cond.methodLink RX1 217 yX1_addBid ∈ gw := gw_in (tb_5 189 (by decide +kernel)) (by decide +kernel)
theorem lX1_220 : Cond.methodLink RX1 220 yX1_removeBid ∈ gw := gw_in (tb_5 190 (by decide +kernel)) (by decide +kernel)
theorem lX1_223 : Cond.methodLink RX1 223 yX1_pass ∈ gw := gw_in (tb_5 191 (by decide +kernel)) (by decide +kernel)
theorem lX1_226 : Cond.methodLinkNest RX1 226 yX4_setValue "WindFarmDispatcher" ∈ nw := nw_in (tb_3 89 (by decide +kernel)) (by decide +kernel)
theorem lX1_230 : Cond.methodLink RX1 230 yX1_crewsLeft ∈ gw := gw_in (tb_3 189 (by decide +kernel)) (by decide +kernel)
theorem lX1_233 : Cond.methodLink RX1 233 yX1_sumIn ∈ gw := gw_in (tb_3 81 (by decide +kernel)) (by decide +kernel)
theorem lX1_236 : Cond.methodLink RX1 236 yX1_turbineWithMostOutput ∈ gw := gw_in (tb_3 82 (by decide +kernel)) (by decide +kernel)
theorem lX1_239 : Cond.methodLink RX1 239 Lib.Math.max.name ∈ gw := gw_in (tb_3 86 (by decide +kernel)) (by decide +kernel)
theorem lX1_242 : Cond.methodLink RX1 242 yX1_account ∈ gw := gw_in (tb_4 215 (by decide +kernel)) (by decide +kernel)
theorem lX1_246 : Cond.methodLink RX1 246 yX1_workOnServices ∈ gw := gw_in (tb_4 219 (by decide +kernel)) (by decide +kernel)
theorem lX2_3 : Cond.methodLink RX2 3 objectInit ∈ gw := gw_in (tb_1 117 (by decide +kernel)) (by decide +kernel)
theorem lX2_9 : Cond.classLink RX2 9 "WindFarmDispatcher$Farm" ∈ gw := gw_in (tb_1 118 (by decide +kernel)) (by decide +kernel)
theorem lX2_17 : Cond.methodLinkNest RX2 17 yX1_init "WindFarmDispatcher" ∈ nw := nw_in (tb_1 120 (by decide +kernel)) (by decide +kernel)
theorem lX2_22 : Cond.methodLink RX2 22 yX2_farmAt ∈ gw := gw_in (tb_3 65 (by decide +kernel)) (by decide +kernel)
theorem lX2_26 : Cond.methodLink RX2 26 yX1_copyFrom ∈ gw := gw_in (tb_3 69 (by decide +kernel)) (by decide +kernel)
theorem lX2_33 : Cond.methodLink RX2 33 Lib.Math.min.name ∈ gw := gw_in (tb_3 76 (by decide +kernel)) (by decide +kernel)
theorem lX3_3 : Cond.methodLink RX3 3 objectInit ∈ gw := gw_in (tb_1 143 (by decide +kernel)) (by decide +kernel)
theorem lX3_19 : Cond.methodLink RX3 19 yX3_add ∈ gw := gw_in (tb_5 62 (by decide +kernel)) (by decide +kernel)
theorem lL_7 : Cond.methodLink RL 7 yX4_addTurbine ∈ gw := gw_in (tb_3 159 (by decide +kernel)) (by decide +kernel)
theorem lL_8 : Cond.classLink RL 8 "WindFarmDispatcher" ∈ gw := gw_in (tb_1 22 (by decide +kernel)) (by decide +kernel)
theorem lL_13 : Cond.classLink RL 13 "java/lang/IndexOutOfBoundsException" ∈ gw := gw_in (tb_3 136 (by decide +kernel)) (by decide +kernel)
theorem lL_15 : Cond.classLink RL 15 "java/lang/IllegalArgumentException" ∈ gw := gw_in (tb_3 157 (by decide +kernel)) (by decide +kernel)
theorem lL_17 : Cond.classLink RL 17 "java/lang/UnsupportedOperationException" ∈ gw := gw_in (tb_3 158 (by decide +kernel)) (by decide +kernel)
theorem lL_19 : Cond.methodLink RL 19 yX4_fail ∈ gw := gw_in (tb_3 170 (by decide +kernel)) (by decide +kernel)
theorem lL_23 : Cond.methodLink RL 23 yX4_sendCrew ∈ gw := gw_in (tb_3 181 (by decide +kernel)) (by decide +kernel)
theorem lL_27 : Cond.methodLink RL 27 yX4_recallCrew ∈ gw := gw_in (tb_3 193 (by decide +kernel)) (by decide +kernel)
theorem lL_30 : Cond.methodLink RL 30 yX4_curtail ∈ gw := gw_in (tb_3 204 (by decide +kernel)) (by decide +kernel)
theorem lL_33 : Cond.methodLink RL 33 yX4_release ∈ gw := gw_in (tb_3 215 (by decide +kernel)) (by decide +kernel)
theorem lL_36 : Cond.methodLink RL 36 yX4_turbineAt ∈ gw := gw_in (tb_3 228 (by decide +kernel)) (by decide +kernel)
theorem lL_39 : Cond.classLink RL 39 "java/util/NoSuchElementException" ∈ gw := gw_in (tb_3 227 (by decide +kernel)) (by decide +kernel)
theorem lL_41 : Cond.methodLink RL 41 yX4_rowOf ∈ gw := gw_in (tb_4 14 (by decide +kernel)) (by decide +kernel)
theorem lL_44 : Cond.methodLink RL 44 yX4_columnOf ∈ gw := gw_in (tb_4 28 (by decide +kernel)) (by decide +kernel)
theorem lL_47 : Cond.methodLink RL 47 yX4_ratedPower ∈ gw := gw_in (tb_4 35 (by decide +kernel)) (by decide +kernel)
theorem lL_50 : Cond.methodLink RL 50 yX4_isRunning ∈ gw := gw_in (tb_4 42 (by decide +kernel)) (by decide +kernel)
theorem lL_54 : Cond.methodLink RL 54 yX4_isFailed ∈ gw := gw_in (tb_4 50 (by decide +kernel)) (by decide +kernel)
theorem lL_57 : Cond.methodLink RL 57 yX4_isInService ∈ gw := gw_in (tb_4 57 (by decide +kernel)) (by decide +kernel)
theorem lL_60 : Cond.methodLink RL 60 yX4_limitOf ∈ gw := gw_in (tb_4 64 (by decide +kernel)) (by decide +kernel)
theorem lL_63 : Cond.methodLink RL 63 yX4_serviceHoursLeft ∈ gw := gw_in (tb_4 73 (by decide +kernel)) (by decide +kernel)
theorem lL_66 : Cond.methodLink RL 66 yX4_setWind ∈ gw := gw_in (tb_4 81 (by decide +kernel)) (by decide +kernel)
theorem lL_70 : Cond.methodLink RL 70 yX4_wakeLoss ∈ gw := gw_in (tb_4 92 (by decide +kernel)) (by decide +kernel)
theorem lL_73 : Cond.methodLink RL 73 yX4_availablePower ∈ gw := gw_in (tb_4 100 (by decide +kernel)) (by decide +kernel)
theorem lL_76 : Cond.methodLink RL 76 yX4_outputOf ∈ gw := gw_in (tb_4 108 (by decide +kernel)) (by decide +kernel)
theorem lL_79 : Cond.methodLink RL 79 yX4_outputWith ∈ gw := gw_in (tb_4 116 (by decide +kernel)) (by decide +kernel)
theorem lL_82 : Cond.methodLink RL 82 yX4_setGridLimit ∈ gw := gw_in (tb_4 125 (by decide +kernel)) (by decide +kernel)
theorem lL_85 : Cond.methodLink RL 85 yX4_placeBid ∈ gw := gw_in (tb_4 136 (by decide +kernel)) (by decide +kernel)
theorem lL_88 : Cond.methodLink RL 88 yX4_withdrawBid ∈ gw := gw_in (tb_4 147 (by decide +kernel)) (by decide +kernel)
theorem lL_91 : Cond.methodLink RL 91 yX4_hasBid ∈ gw := gw_in (tb_4 158 (by decide +kernel)) (by decide +kernel)
theorem lL_94 : Cond.methodLink RL 94 yX4_bidPrice ∈ gw := gw_in (tb_4 172 (by decide +kernel)) (by decide +kernel)
theorem lL_97 : Cond.methodLink RL 97 yX4_bidQuantity ∈ gw := gw_in (tb_4 184 (by decide +kernel)) (by decide +kernel)
theorem lL_100 : Cond.methodLink RL 100 yX4_bidByPrice ∈ gw := gw_in (tb_4 191 (by decide +kernel)) (by decide +kernel)
theorem lL_103 : Cond.methodLink RL 103 yX4_passHours ∈ gw := gw_in (tb_4 207 (by decide +kernel)) (by decide +kernel)
theorem lL_106 : Cond.methodLink RL 106 yX4_incomeWithin ∈ gw := gw_in (tb_4 226 (by decide +kernel)) (by decide +kernel)
theorem lL_109 : Cond.methodLink RL 109 yX4_hoursToBid ∈ gw := gw_in (tb_4 234 (by decide +kernel)) (by decide +kernel)
theorem lL_113 : Cond.methodLink RL 113 yX4_turbineByOutput ∈ gw := gw_in (tb_5 2 (by decide +kernel)) (by decide +kernel)
theorem lL_116 : Cond.methodLink RL 116 yX4_meanOutput ∈ gw := gw_in (tb_5 32 (by decide +kernel)) (by decide +kernel)
theorem lL_120 : Cond.classLink RL 120 "java/lang/ArithmeticException" ∈ gw := gw_in (tb_5 18 (by decide +kernel)) (by decide +kernel)
theorem lL_122 : Cond.methodLink RL 122 yX4_runningShare ∈ gw := gw_in (tb_5 42 (by decide +kernel)) (by decide +kernel)
theorem lL_126 : Cond.methodLink RL 126 yX4_writeTurbine ∈ gw := gw_in (tb_5 50 (by decide +kernel)) (by decide +kernel)
theorem lL_129 : Cond.methodLink RL 129 yX4_outputAt ∈ gw := gw_in (tb_5 74 (by decide +kernel)) (by decide +kernel)
theorem lL_133 : Cond.methodLink RL 133 yX4_appendInput ∈ gw := gw_in (tb_5 87 (by decide +kernel)) (by decide +kernel)
theorem lL_137 : Cond.classLink RL 137 "java/lang/IllegalStateException" ∈ gw := gw_in (tb_5 86 (by decide +kernel)) (by decide +kernel)
theorem lL_139 : Cond.methodLink RL 139 yX4_execute ∈ gw := gw_in (tb_5 111 (by decide +kernel)) (by decide +kernel)
theorem lL_142 : Cond.methodLink RL 142 yX4_syntaxErrorOffset ∈ gw := gw_in (tb_5 195 (by decide +kernel)) (by decide +kernel)
theorem lL_145 : Cond.methodLink RL 145 yX4_rejectionReason ∈ gw := gw_in (tb_5 203 (by decide +kernel)) (by decide +kernel)
theorem lL_148 : Cond.methodLink RL 148 yX4_rejectionDetail ∈ gw := gw_in (tb_5 215 (by decide +kernel)) (by decide +kernel)
theorem lL_151 : Cond.methodLink RL 151 yX4_causeReason ∈ gw := gw_in (tb_5 222 (by decide +kernel)) (by decide +kernel)
theorem lL_154 : Cond.methodLink RL 154 yX4_undo ∈ gw := gw_in (tb_5 230 (by decide +kernel)) (by decide +kernel)
theorem lL_157 : Cond.methodLink RL 157 yX4_restoreSnapshot ∈ gw := gw_in (tb_6 2 (by decide +kernel)) (by decide +kernel)
theorem lL_160 : Cond.methodLink RL 160 yX4_init ∈ gw := gw_in (tb_1 24 (by decide +kernel)) (by decide +kernel)
theorem lL_161 : Cond.classLink RL 161 "WindFarmDispatcherModel" ∈ gw := gw_in (tb_6 11 (by decide +kernel)) (by decide +kernel)
theorem lL_163 : Cond.methodLink RL 163 yX5_init ∈ gw := gw_in (tb_6 13 (by decide +kernel)) (by decide +kernel)
theorem lL_164 : Cond.methodLink RL 164 yL_addTurbine ∈ gw := gw_in (tb_3 133 (by decide +kernel)) (by decide +kernel)
theorem lL_169 : Cond.methodLink RL 169 yX5_addTurbine ∈ gw := gw_in (tb_6 89 (by decide +kernel)) (by decide +kernel)
theorem lL_170 : Cond.methodLink RL 170 yX5_thrown ∈ gw := gw_in (tb_6 69 (by decide +kernel)) (by decide +kernel)
theorem lL_173 : Cond.methodLink RL 173 yL_fail ∈ gw := gw_in (tb_3 167 (by decide +kernel)) (by decide +kernel)
theorem lL_176 : Cond.methodLink RL 176 yX5_fail ∈ gw := gw_in (tb_6 131 (by decide +kernel)) (by decide +kernel)
theorem lL_177 : Cond.methodLink RL 177 yL_sendCrew ∈ gw := gw_in (tb_3 178 (by decide +kernel)) (by decide +kernel)
theorem lL_180 : Cond.methodLink RL 180 yX5_sendCrew ∈ gw := gw_in (tb_6 147 (by decide +kernel)) (by decide +kernel)
theorem lL_181 : Cond.methodLink RL 181 yL_recallCrew ∈ gw := gw_in (tb_3 190 (by decide +kernel)) (by decide +kernel)
theorem lL_183 : Cond.methodLink RL 183 yX5_recallCrew ∈ gw := gw_in (tb_6 178 (by decide +kernel)) (by decide +kernel)
theorem lL_184 : Cond.methodLink RL 184 yL_curtail ∈ gw := gw_in (tb_3 201 (by decide +kernel)) (by decide +kernel)
theorem lL_186 : Cond.methodLink RL 186 yX5_curtail ∈ gw := gw_in (tb_6 186 (by decide +kernel)) (by decide +kernel)
theorem lL_187 : Cond.methodLink RL 187 yL_release ∈ gw := gw_in (tb_3 212 (by decide +kernel)) (by decide +kernel)
theorem lL_189 : Cond.methodLink RL 189 yX5_release ∈ gw := gw_in (tb_6 194 (by decide +kernel)) (by decide +kernel)
theorem lL_190 : Cond.methodLink RL 190 yX4_turbineCount ∈ gw := gw_in (tb_1 209 (by decide +kernel)) (by decide +kernel)
theorem lL_193 : Cond.methodLink RL 193 yX5_turbineCount ∈ gw := gw_in (tb_7 44 (by decide +kernel)) (by decide +kernel)
theorem lL_194 : Cond.methodLink RL 194 yL_turbineAt ∈ gw := gw_in (tb_3 224 (by decide +kernel)) (by decide +kernel)
theorem lL_196 : Cond.methodLink RL 196 yX5_turbineAt ∈ gw := gw_in (tb_7 48 (by decide +kernel)) (by decide +kernel)
theorem lL_197 : Cond.methodLink RL 197 yL_rowOf ∈ gw := gw_in (tb_4 11 (by decide +kernel)) (by decide +kernel)
theorem lL_199 : Cond.methodLink RL 199 yX5_rowOf ∈ gw := gw_in (tb_7 52 (by decide +kernel)) (by decide +kernel)
theorem lL_200 : Cond.methodLink RL 200 yL_columnOf ∈ gw := gw_in (tb_4 25 (by decide +kernel)) (by decide +kernel)
theorem lL_202 : Cond.methodLink RL 202 yX5_columnOf ∈ gw := gw_in (tb_7 60 (by decide +kernel)) (by decide +kernel)
theorem lL_203 : Cond.methodLink RL 203 yL_ratedPower ∈ gw := gw_in (tb_4 32 (by decide +kernel)) (by decide +kernel)
theorem lL_205 : Cond.methodLink RL 205 yX5_ratedPower ∈ gw := gw_in (tb_7 64 (by decide +kernel)) (by decide +kernel)
theorem lL_206 : Cond.methodLink RL 206 yL_isRunning ∈ gw := gw_in (tb_4 39 (by decide +kernel)) (by decide +kernel)
theorem lL_208 : Cond.methodLink RL 208 yX5_isRunning ∈ gw := gw_in (tb_7 68 (by decide +kernel)) (by decide +kernel)
theorem lL_209 : Cond.methodLink RL 209 yL_isFailed ∈ gw := gw_in (tb_4 47 (by decide +kernel)) (by decide +kernel)
theorem lL_211 : Cond.methodLink RL 211 yX5_isFailed ∈ gw := gw_in (tb_7 72 (by decide +kernel)) (by decide +kernel)
theorem lL_212 : Cond.methodLink RL 212 yL_isInService ∈ gw := gw_in (tb_4 54 (by decide +kernel)) (by decide +kernel)
theorem lL_214 : Cond.methodLink RL 214 yX5_isInService ∈ gw := gw_in (tb_7 76 (by decide +kernel)) (by decide +kernel)
theorem lL_215 : Cond.methodLink RL 215 yL_limitOf ∈ gw := gw_in (tb_4 61 (by decide +kernel)) (by decide +kernel)
theorem lL_217 : Cond.methodLink RL 217 yX5_limitOf ∈ gw := gw_in (tb_7 80 (by decide +kernel)) (by decide +kernel)
theorem lL_218 : Cond.methodLink RL 218 yL_serviceHoursLeft ∈ gw := gw_in (tb_4 70 (by decide +kernel)) (by decide +kernel)
theorem lL_220 : Cond.methodLink RL 220 yX5_serviceHoursLeft ∈ gw := gw_in (tb_7 84 (by decide +kernel)) (by decide +kernel)
theorem lL_221 : Cond.methodLink RL 221 yX4_freeCrews ∈ gw := gw_in (tb_1 213 (by decide +kernel)) (by decide +kernel)
theorem lL_224 : Cond.methodLink RL 224 yX5_freeCrews ∈ gw := gw_in (tb_7 88 (by decide +kernel)) (by decide +kernel)
theorem lL_225 : Cond.methodLink RL 225 yL_setWind ∈ gw := gw_in (tb_4 78 (by decide +kernel)) (by decide +kernel)
theorem lL_228 : Cond.methodLink RL 228 yX5_setWind ∈ gw := gw_in (tb_6 202 (by decide +kernel)) (by decide +kernel)
theorem lL_229 : Cond.methodLink RL 229 yX4_windDirection ∈ gw := gw_in (tb_1 229 (by decide +kernel)) (by decide +kernel)
theorem lL_233 : Cond.methodLink RL 233 yX5_windDirection ∈ gw := gw_in (tb_7 92 (by decide +kernel)) (by decide +kernel)
theorem lL_234 : Cond.methodLink RL 234 yX4_windSpeed ∈ gw := gw_in (tb_1 233 (by decide +kernel)) (by decide +kernel)
theorem lL_237 : Cond.methodLink RL 237 yX5_windSpeed ∈ gw := gw_in (tb_7 99 (by decide +kernel)) (by decide +kernel)
theorem lL_238 : Cond.methodLink RL 238 yX4_powerFactor ∈ gw := gw_in (tb_1 237 (by decide +kernel)) (by decide +kernel)
theorem lL_241 : Cond.methodLink RL 241 yX5_powerFactor ∈ gw := gw_in (tb_7 103 (by decide +kernel)) (by decide +kernel)
theorem lL_242 : Cond.methodLink RL 242 yL_wakeLoss ∈ gw := gw_in (tb_4 89 (by decide +kernel)) (by decide +kernel)
theorem lL_244 : Cond.methodLink RL 244 yX5_wakeLoss ∈ gw := gw_in (tb_7 107 (by decide +kernel)) (by decide +kernel)
theorem lL_245 : Cond.methodLink RL 245 yL_availablePower ∈ gw := gw_in (tb_4 97 (by decide +kernel)) (by decide +kernel)
theorem lL_247 : Cond.methodLink RL 247 yX5_availablePower ∈ gw := gw_in (tb_7 111 (by decide +kernel)) (by decide +kernel)
theorem lL_248 : Cond.methodLink RL 248 yL_outputOf ∈ gw := gw_in (tb_4 105 (by decide +kernel)) (by decide +kernel)
theorem lL_250 : Cond.methodLink RL 250 yX5_outputOf ∈ gw := gw_in (tb_7 115 (by decide +kernel)) (by decide +kernel)
theorem lL_251 : Cond.methodLink RL 251 yX4_totalOutput ∈ gw := gw_in (tb_2 4 (by decide +kernel)) (by decide +kernel)
theorem lL_254 : Cond.methodLink RL 254 yX5_totalOutput ∈ gw := gw_in (tb_7 119 (by decide +kernel)) (by decide +kernel)
theorem lL_255 : Cond.methodLink RL 255 yX4_totalOutputByLines ∈ gw := gw_in (tb_2 44 (by decide +kernel)) (by decide +kernel)
theorem lL_258 : Cond.methodLink RL 258 yX5_totalOutputByLines ∈ gw := gw_in (tb_7 123 (by decide +kernel)) (by decide +kernel)
theorem lL_259 : Cond.methodLink RL 259 yL_outputWith ∈ gw := gw_in (tb_4 113 (by decide +kernel)) (by decide +kernel)
theorem lL_261 : Cond.methodLink RL 261 yX5_outputWith ∈ gw := gw_in (tb_7 128 (by decide +kernel)) (by decide +kernel)
theorem lL_262 : Cond.methodLink RL 262 yX4_bestDirection ∈ gw := gw_in (tb_2 68 (by decide +kernel)) (by decide +kernel)
theorem lL_265 : Cond.methodLink RL 265 yX5_bestDirection ∈ gw := gw_in (tb_7 136 (by decide +kernel)) (by decide +kernel)
theorem lL_266 : Cond.methodLink RL 266 yL_setGridLimit ∈ gw := gw_in (tb_4 122 (by decide +kernel)) (by decide +kernel)
theorem lL_268 : Cond.methodLink RL 268 yX5_setGridLimit ∈ gw := gw_in (tb_6 217 (by decide +kernel)) (by decide +kernel)
theorem lL_269 : Cond.methodLink RL 269 yX4_gridLimit ∈ gw := gw_in (tb_2 122 (by decide +kernel)) (by decide +kernel)
theorem lL_272 : Cond.methodLink RL 272 yX5_gridLimit ∈ gw := gw_in (tb_7 140 (by decide +kernel)) (by decide +kernel)
theorem lL_273 : Cond.methodLink RL 273 yX4_dispatch ∈ gw := gw_in (tb_2 126 (by decide +kernel)) (by decide +kernel)
theorem lL_276 : Cond.methodLink RL 276 yX5_dispatch ∈ gw := gw_in (tb_6 225 (by decide +kernel)) (by decide +kernel)
theorem lL_277 : Cond.methodLink RL 277 yX4_releaseAll ∈ gw := gw_in (tb_3 92 (by decide +kernel)) (by decide +kernel)
theorem lL_280 : Cond.methodLink RL 280 yX5_releaseAll ∈ gw := gw_in (tb_6 233 (by decide +kernel)) (by decide +kernel)
theorem lL_281 : Cond.methodLink RL 281 yL_placeBid ∈ gw := gw_in (tb_4 133 (by decide +kernel)) (by decide +kernel)
theorem lL_283 : Cond.methodLink RL 283 yX5_placeBid ∈ gw := gw_in (tb_7 1 (by decide +kernel)) (by decide +kernel)
theorem lL_284 : Cond.methodLink RL 284 yL_withdrawBid ∈ gw := gw_in (tb_4 144 (by decide +kernel)) (by decide +kernel)
theorem lL_286 : Cond.methodLink RL 286 yX5_withdrawBid ∈ gw := gw_in (tb_7 20 (by decide +kernel)) (by decide +kernel)
theorem lL_287 : Cond.methodLink RL 287 yL_hasBid ∈ gw := gw_in (tb_4 155 (by decide +kernel)) (by decide +kernel)
theorem lL_289 : Cond.methodLink RL 289 yX5_hasBid ∈ gw := gw_in (tb_7 144 (by decide +kernel)) (by decide +kernel)
theorem lL_290 : Cond.methodLink RL 290 yL_bidPrice ∈ gw := gw_in (tb_4 169 (by decide +kernel)) (by decide +kernel)
theorem lL_292 : Cond.methodLink RL 292 yX5_bidPrice ∈ gw := gw_in (tb_7 148 (by decide +kernel)) (by decide +kernel)
theorem lL_293 : Cond.methodLink RL 293 yL_bidQuantity ∈ gw := gw_in (tb_4 181 (by decide +kernel)) (by decide +kernel)
theorem lL_295 : Cond.methodLink RL 295 yX5_bidQuantity ∈ gw := gw_in (tb_7 156 (by decide +kernel)) (by decide +kernel)
theorem lL_296 : Cond.methodLink RL 296 yL_bidByPrice ∈ gw := gw_in (tb_4 188 (by decide +kernel)) (by decide +kernel)
theorem lL_298 : Cond.methodLink RL 298 yX5_bidByPrice ∈ gw := gw_in (tb_7 160 (by decide +kernel)) (by decide +kernel)
theorem lL_299 : Cond.methodLink RL 299 yL_passHours ∈ gw := gw_in (tb_4 204 (by decide +kernel)) (by decide +kernel)
theorem lL_301 : Cond.methodLink RL 301 yX5_passHours ∈ gw := gw_in (tb_7 32 (by decide +kernel)) (by decide +kernel)
theorem lL_302 : Cond.methodLink RL 302 yX4_time ∈ gw := gw_in (tb_3 100 (by decide +kernel)) (by decide +kernel)
theorem lL_305 : Cond.methodLink RL 305 yX5_time ∈ gw := gw_in (tb_7 164 (by decide +kernel)) (by decide +kernel)
theorem lL_306 : Cond.methodLink RL 306 yL_incomeWithin ∈ gw := gw_in (tb_4 223 (by decide +kernel)) (by decide +kernel)
theorem lL_308 : Cond.methodLink RL 308 yX5_incomeWithin ∈ gw := gw_in (tb_7 168 (by decide +kernel)) (by decide +kernel)
theorem lL_309 : Cond.methodLink RL 309 yL_hoursToBid ∈ gw := gw_in (tb_4 231 (by decide +kernel)) (by decide +kernel)
theorem lL_312 : Cond.methodLink RL 312 yX5_hoursToBid ∈ gw := gw_in (tb_7 172 (by decide +kernel)) (by decide +kernel)
theorem lL_313 : Cond.methodLink RL 313 yX4_energyMade ∈ gw := gw_in (tb_3 104 (by decide +kernel)) (by decide +kernel)
theorem lL_317 : Cond.methodLink RL 317 yX5_energyMade ∈ gw := gw_in (tb_7 176 (by decide +kernel)) (by decide +kernel)
theorem lL_318 : Cond.methodLink RL 318 yX4_energyLost ∈ gw := gw_in (tb_3 108 (by decide +kernel)) (by decide +kernel)
theorem lL_321 : Cond.methodLink RL 321 yX5_energyLost ∈ gw := gw_in (tb_7 180 (by decide +kernel)) (by decide +kernel)
theorem lL_322 : Cond.methodLink RL 322 yX4_energySold ∈ gw := gw_in (tb_3 112 (by decide +kernel)) (by decide +kernel)
theorem lL_325 : Cond.methodLink RL 325 yX5_energySold ∈ gw := gw_in (tb_7 184 (by decide +kernel)) (by decide +kernel)
theorem lL_326 : Cond.methodLink RL 326 yX4_energySpilled ∈ gw := gw_in (tb_3 116 (by decide +kernel)) (by decide +kernel)
theorem lL_329 : Cond.methodLink RL 329 yX5_energySpilled ∈ gw := gw_in (tb_7 188 (by decide +kernel)) (by decide +kernel)
theorem lL_330 : Cond.methodLink RL 330 yX4_coins ∈ gw := gw_in (tb_3 120 (by decide +kernel)) (by decide +kernel)
theorem lL_333 : Cond.methodLink RL 333 yX5_coins ∈ gw := gw_in (tb_7 192 (by decide +kernel)) (by decide +kernel)
theorem lL_334 : Cond.methodLink RL 334 yL_turbineByOutput ∈ gw := gw_in (tb_4 239 (by decide +kernel)) (by decide +kernel)
theorem lL_336 : Cond.methodLink RL 336 yX5_turbineByOutput ∈ gw := gw_in (tb_7 196 (by decide +kernel)) (by decide +kernel)
theorem lL_337 : Cond.methodLink RL 337 yL_meanOutput ∈ gw := gw_in (tb_5 15 (by decide +kernel)) (by decide +kernel)
theorem lL_340 : Cond.methodLink RL 340 yX5_meanOutput ∈ gw := gw_in (tb_7 200 (by decide +kernel)) (by decide +kernel)
theorem lL_341 : Cond.methodLink RL 341 yL_runningShare ∈ gw := gw_in (tb_5 39 (by decide +kernel)) (by decide +kernel)
theorem lL_343 : Cond.methodLink RL 343 yX5_runningShare ∈ gw := gw_in (tb_7 204 (by decide +kernel)) (by decide +kernel)
theorem lL_344 : Cond.methodLink RL 344 yX4_isConsistent ∈ gw := gw_in (tb_3 124 (by decide +kernel)) (by decide +kernel)
theorem lL_348 : Cond.methodLink RL 348 yX5_isConsistent ∈ gw := gw_in (tb_7 208 (by decide +kernel)) (by decide +kernel)
theorem lL_349 : Cond.methodLink RL 349 yL_writeTurbine ∈ gw := gw_in (tb_5 47 (by decide +kernel)) (by decide +kernel)
theorem lL_351 : Cond.methodLink RL 351 yX5_writeTurbine ∈ gw := gw_in (tb_7 212 (by decide +kernel)) (by decide +kernel)
theorem lL_352 : Cond.methodLink RL 352 yL_outputAt ∈ gw := gw_in (tb_5 71 (by decide +kernel)) (by decide +kernel)
theorem lL_354 : Cond.methodLink RL 354 yX5_outputAt ∈ gw := gw_in (tb_7 228 (by decide +kernel)) (by decide +kernel)
theorem lL_355 : Cond.methodLink RL 355 yL_appendInput ∈ gw := gw_in (tb_5 83 (by decide +kernel)) (by decide +kernel)
theorem lL_358 : Cond.methodLink RL 358 yX5_appendInput ∈ gw := gw_in (tb_7 232 (by decide +kernel)) (by decide +kernel)
theorem lL_359 : Cond.methodLink RL 359 yL_execute ∈ gw := gw_in (tb_5 108 (by decide +kernel)) (by decide +kernel)
theorem lL_361 : Cond.methodLink RL 361 yX5_execute ∈ gw := gw_in (tb_7 236 (by decide +kernel)) (by decide +kernel)
theorem lL_362 : Cond.methodLink RL 362 yL_syntaxErrorOffset ∈ gw := gw_in (tb_5 192 (by decide +kernel)) (by decide +kernel)
theorem lL_364 : Cond.methodLink RL 364 yX5_syntaxErrorOffset ∈ gw := gw_in (tb_8 35 (by decide +kernel)) (by decide +kernel)
theorem lL_365 : Cond.methodLink RL 365 yL_rejectionReason ∈ gw := gw_in (tb_5 200 (by decide +kernel)) (by decide +kernel)
theorem lL_367 : Cond.methodLink RL 367 yX5_rejectionReason ∈ gw := gw_in (tb_6 73 (by decide +kernel)) (by decide +kernel)
theorem lL_368 : Cond.methodLink RL 368 yL_rejectionDetail ∈ gw := gw_in (tb_5 212 (by decide +kernel)) (by decide +kernel)
theorem lL_370 : Cond.methodLink RL 370 yX5_rejectionDetail ∈ gw := gw_in (tb_6 81 (by decide +kernel)) (by decide +kernel)
theorem lL_371 : Cond.methodLink RL 371 yL_causeReason ∈ gw := gw_in (tb_5 219 (by decide +kernel)) (by decide +kernel)
theorem lL_373 : Cond.methodLink RL 373 yX5_causeReason ∈ gw := gw_in (tb_6 85 (by decide +kernel)) (by decide +kernel)
theorem lL_374 : Cond.methodLink RL 374 yL_undo ∈ gw := gw_in (tb_5 227 (by decide +kernel)) (by decide +kernel)
theorem lL_376 : Cond.methodLink RL 376 yX5_undo ∈ gw := gw_in (tb_8 39 (by decide +kernel)) (by decide +kernel)
theorem lL_377 : Cond.methodLink RL 377 yX4_saveSnapshot ∈ gw := gw_in (tb_3 128 (by decide +kernel)) (by decide +kernel)
theorem lL_380 : Cond.methodLink RL 380 yX5_saveSnapshot ∈ gw := gw_in (tb_8 43 (by decide +kernel)) (by decide +kernel)
theorem lL_381 : Cond.methodLink RL 381 yL_restoreSnapshot ∈ gw := gw_in (tb_5 239 (by decide +kernel)) (by decide +kernel)
theorem lL_383 : Cond.methodLink RL 383 yX5_restoreSnapshot ∈ gw := gw_in (tb_8 47 (by decide +kernel)) (by decide +kernel)
theorem lX5_1 : Cond.methodLink RX5 1 objectInit ∈ gw := gw_in (tb_6 16 (by decide +kernel)) (by decide +kernel)
theorem lX5_30 : Cond.methodLink RX5 30 yX5_copies ∈ gw := gw_in (tb_6 97 (by decide +kernel)) (by decide +kernel)
theorem lX5_49 : Cond.methodLink RX5 49 yX5_isFine ∈ gw := gw_in (tb_6 77 (by decide +kernel)) (by decide +kernel)
theorem lX5_53 : Cond.methodLink RX5 53 yX5_in ∈ gw := gw_in (tb_6 108 (by decide +kernel)) (by decide +kernel)
theorem lX5_57 : Cond.methodLink RX5 57 yX5_t ∈ gw := gw_in (tb_6 115 (by decide +kernel)) (by decide +kernel)
theorem lX5_61 : Cond.methodLink RX5 61 yX5_inCell ∈ gw := gw_in (tb_6 111 (by decide +kernel)) (by decide +kernel)
theorem lX5_64 : Cond.methodLink RX5 64 yX5_wakeOf ∈ gw := gw_in (tb_6 170 (by decide +kernel)) (by decide +kernel)
theorem lX5_67 : Cond.methodLink RX5 67 yX5_factorOf ∈ gw := gw_in (tb_6 163 (by decide +kernel)) (by decide +kernel)
theorem lX5_71 : Cond.methodLink RX5 71 yX5_lossOf ∈ gw := gw_in (tb_6 166 (by decide +kernel)) (by decide +kernel)
theorem lX5_74 : Cond.methodLink RX5 74 yX5_available ∈ gw := gw_in (tb_6 159 (by decide +kernel)) (by decide +kernel)
theorem lX5_77 : Cond.methodLink RX5 77 yX5_output ∈ gw := gw_in (tb_6 155 (by decide +kernel)) (by decide +kernel)
theorem lX5_80 : Cond.methodLink RX5 80 yX5_isCell ∈ gw := gw_in (tb_6 105 (by decide +kernel)) (by decide +kernel)
theorem lX5_84 : Cond.methodLink RX5 84 yX5_rejects ∈ gw := gw_in (tb_6 119 (by decide +kernel)) (by decide +kernel)
theorem lX5_88 : Cond.methodLink RX5 88 yX5_set ∈ gw := gw_in (tb_6 123 (by decide +kernel)) (by decide +kernel)
theorem lX5_92 : Cond.methodLink RX5 92 yX5_begins ∈ gw := gw_in (tb_6 93 (by decide +kernel)) (by decide +kernel)
theorem lX5_95 : Cond.methodLink RX5 95 yX5_adds ∈ gw := gw_in (tb_6 101 (by decide +kernel)) (by decide +kernel)
theorem lX5_99 : Cond.methodLink RX5 99 yX5_ends ∈ gw := gw_in (tb_6 127 (by decide +kernel)) (by decide +kernel)
theorem lX5_103 : Cond.methodLink RX5 103 yX5_isTurbine ∈ gw := gw_in (tb_6 139 (by decide +kernel)) (by decide +kernel)
theorem lX5_107 : Cond.methodLink RX5 107 yX5_inState ∈ gw := gw_in (tb_6 143 (by decide +kernel)) (by decide +kernel)
theorem lX5_110 : Cond.methodLink RX5 110 yX5_fails ∈ gw := gw_in (tb_6 135 (by decide +kernel)) (by decide +kernel)
theorem lX5_113 : Cond.methodLink RX5 113 yX5_firstInService ∈ gw := gw_in (tb_6 174 (by decide +kernel)) (by decide +kernel)
theorem lX5_117 : Cond.methodLink RX5 117 yX5_sends ∈ gw := gw_in (tb_6 151 (by decide +kernel)) (by decide +kernel)
theorem lX5_120 : Cond.methodLink RX5 120 yX5_recalls ∈ gw := gw_in (tb_6 182 (by decide +kernel)) (by decide +kernel)
theorem lX5_123 : Cond.methodLink RX5 123 yX5_curtails ∈ gw := gw_in (tb_6 190 (by decide +kernel)) (by decide +kernel)
theorem lX5_126 : Cond.methodLink RX5 126 yX5_releases ∈ gw := gw_in (tb_6 198 (by decide +kernel)) (by decide +kernel)
theorem lX5_129 : Cond.methodLink RX5 129 yX5_total ∈ gw := gw_in (tb_6 213 (by decide +kernel)) (by decide +kernel)
theorem lX5_132 : Cond.methodLink RX5 132 yX5_wayOf ∈ gw := gw_in (tb_6 206 (by decide +kernel)) (by decide +kernel)
theorem lX5_135 : Cond.methodLink RX5 135 yX5_blows ∈ gw := gw_in (tb_6 209 (by decide +kernel)) (by decide +kernel)
theorem lX5_138 : Cond.methodLink RX5 138 yX5_limits ∈ gw := gw_in (tb_6 221 (by decide +kernel)) (by decide +kernel)
theorem lX5_141 : Cond.methodLink RX5 141 yX5_dispatches ∈ gw := gw_in (tb_6 229 (by decide +kernel)) (by decide +kernel)
theorem lX5_144 : Cond.methodLink RX5 144 yX5_releasesAll ∈ gw := gw_in (tb_6 237 (by decide +kernel)) (by decide +kernel)
theorem lX5_147 : Cond.methodLink RX5 147 yX5_price ∈ gw := gw_in (tb_7 12 (by decide +kernel)) (by decide +kernel)
theorem lX5_150 : Cond.methodLink RX5 150 yX5_isHour ∈ gw := gw_in (tb_7 9 (by decide +kernel)) (by decide +kernel)
theorem lX5_153 : Cond.methodLink RX5 153 yX5_bids ∈ gw := gw_in (tb_7 16 (by decide +kernel)) (by decide +kernel)
theorem lX5_156 : Cond.methodLink RX5 156 yX5_places ∈ gw := gw_in (tb_7 5 (by decide +kernel)) (by decide +kernel)
theorem lX5_159 : Cond.methodLink RX5 159 yX5_quantity ∈ gw := gw_in (tb_7 28 (by decide +kernel)) (by decide +kernel)
theorem lX5_162 : Cond.methodLink RX5 162 yX5_withdraws ∈ gw := gw_in (tb_7 24 (by decide +kernel)) (by decide +kernel)
theorem lX5_165 : Cond.methodLink RX5 165 yX5_passes ∈ gw := gw_in (tb_7 40 (by decide +kernel)) (by decide +kernel)
theorem lX5_168 : Cond.methodLink RX5 168 yX5_passesHours ∈ gw := gw_in (tb_7 36 (by decide +kernel)) (by decide +kernel)
theorem lX5_171 : Cond.methodLink RX5 171 yX5_ofTurbine ∈ gw := gw_in (tb_7 56 (by decide +kernel)) (by decide +kernel)
theorem lX5_174 : Cond.methodLink RX5 174 yX5_signOf ∈ gw := gw_in (tb_7 96 (by decide +kernel)) (by decide +kernel)
theorem lX5_178 : Cond.methodLink RX5 178 yX5_totalOutput ∈ gw := gw_in (tb_7 127 (by decide +kernel)) (by decide +kernel)
theorem lX5_181 : Cond.methodLink RX5 181 yX5_totalWith ∈ gw := gw_in (tb_7 132 (by decide +kernel)) (by decide +kernel)
theorem lX5_184 : Cond.methodLink RX5 184 yX5_isBid ∈ gw := gw_in (tb_7 152 (by decide +kernel)) (by decide +kernel)
theorem lX5_190 : Cond.methodLink RX5 190 yX5_writesNumber ∈ gw := gw_in (tb_7 216 (by decide +kernel)) (by decide +kernel)
theorem lX5_194 : Cond.methodLink RX5 194 yX5_writes ∈ gw := gw_in (tb_7 220 (by decide +kernel)) (by decide +kernel)
theorem lX5_197 : Cond.methodLink RX5 197 yX5_writesBehind ∈ gw := gw_in (tb_7 224 (by decide +kernel)) (by decide +kernel)
theorem lX5_209 : Cond.methodLink RX5 209 yX5_sign ∈ gw := gw_in (tb_8 8 (by decide +kernel)) (by decide +kernel)
theorem lX5_212 : Cond.methodLink RX5 212 yX5_needs ∈ gw := gw_in (tb_8 27 (by decide +kernel)) (by decide +kernel)
theorem lX5_215 : Cond.methodLink RX5 215 yX5_number ∈ gw := gw_in (tb_8 15 (by decide +kernel)) (by decide +kernel)
theorem lX5_221 : Cond.methodLink RX5 221 yX5_isLetter ∈ gw := gw_in (tb_8 12 (by decide +kernel)) (by decide +kernel)
theorem lX5_224 : Cond.methodLink RX5 224 yX5_way ∈ gw := gw_in (tb_8 19 (by decide +kernel)) (by decide +kernel)
theorem lX5_227 : Cond.methodLink RX5 227 yX5_behind ∈ gw := gw_in (tb_8 23 (by decide +kernel)) (by decide +kernel)
theorem lX5_230 : Cond.methodLink RX5 230 yX5_command ∈ gw := gw_in (tb_8 4 (by decide +kernel)) (by decide +kernel)
theorem lX5_233 : Cond.methodLink RX5 233 yX5_parse ∈ gw := gw_in (tb_8 0 (by decide +kernel)) (by decide +kernel)
theorem lX5_236 : Cond.methodLink RX5 236 yX5_does ∈ gw := gw_in (tb_8 31 (by decide +kernel)) (by decide +kernel)
end
section
/-! THE FIELDS: a row to read and a row to write each. -/
theorem inX0t : ∀ w ∈ u_ws RX0 TX0 5, w ∈ lw_tbl := fun w h => (goodIn_r (big := lw_tbl) (u_ws RX0 TX0 5) [239, 241, 243, 245, 247] (by decide +kernel) (by decide +kernel) w h).1
theorem inX0 : ∀ w ∈ u_ws RX0 TX0 5, w ∈ gw := fun w h => List.mem_filter.mpr ⟨inX0t w h, (by decide +kernel : ∀ w ∈ u_ws RX0 TX0 5, goodWord w = true) w h⟩
theorem inX1t : ∀ w ∈ u_ws RX1 TX1 19, w ∈ lw_tbl := fun w h => (goodIn_r (big := lw_tbl) (u_ws RX1 TX1 19) [149, 151, 153, 155, 157, 159, 161, 163, 165, 167, 169, 171, 173, 175, 177, 179, 181, 183, 185] (by decide +kernel) (by decide +kernel) w h).1
theorem inX1 : ∀ w ∈ u_ws RX1 TX1 19, w ∈ gw := fun w h => List.mem_filter.mpr ⟨inX1t w h, (by decide +kernel : ∀ w ∈ u_ws RX1 TX1 19, goodWord w = true) w h⟩
theorem inX2t : ∀ w ∈ u_ws RX2 TX2 3, w ∈ lw_tbl := fun w h => (goodIn_r (big := lw_tbl) (u_ws RX2 TX2 3) [202, 204, 206] (by decide +kernel) (by decide +kernel) w h).1
theorem inX2 : ∀ w ∈ u_ws RX2 TX2 3, w ∈ gw := fun w h => List.mem_filter.mpr ⟨inX2t w h, (by decide +kernel : ∀ w ∈ u_ws RX2 TX2 3, goodWord w = true) w h⟩
theorem inX3t : ∀ w ∈ u_ws RX3 TX3 2, w ∈ lw_tbl := fun w h => (goodIn_r (big := lw_tbl) (u_ws RX3 TX3 2) [225, 227] (by decide +kernel) (by decide +kernel) w h).1
theorem inX3 : ∀ w ∈ u_ws RX3 TX3 2, w ∈ gw := fun w h => List.mem_filter.mpr ⟨inX3t w h, (by decide +kernel : ∀ w ∈ u_ws RX3 TX3 2, goodWord w = true) w h⟩
theorem inX4t : ∀ w ∈ u_ws RX4 TX4 11, w ∈ lw_tbl := fun w h => (goodIn_r (big := lw_tbl) (u_ws RX4 TX4 11) [263, 265, 267, 269, 271, 273, 275, 277, 279, 281, 283] (by decide +kernel) (by decide +kernel) w h).1
theorem inX4 : ∀ w ∈ u_ws RX4 TX4 11, w ∈ gw := fun w h => List.mem_filter.mpr ⟨inX4t w h, (by decide +kernel : ∀ w ∈ u_ws RX4 TX4 11, goodWord w = true) w h⟩
theorem inX5t : ∀ w ∈ u_ws RX5 TX5 17, w ∈ lw_tbl := fun w h => (goodIn_r (big := lw_tbl) (u_ws RX5 TX5 17) [1311, 1313, 1315, 1317, 1319, 1321, 1323, 1325, 1327, 1329, 1331, 1333, 1335, 1337, 1339, 1341, 1343] (by decide +kernel) (by decide +kernel) w h).1
theorem inX5 : ∀ w ∈ u_ws RX5 TX5 17, w ∈ gw := fun w h => List.mem_filter.mpr ⟨inX5t w h, (by decide +kernel : ∀ w ∈ u_ws RX5 TX5 17, goodWord w = true) w h⟩
section FIELDS
variable {X : CX} {G : GX} {cc : ByteArray} {nL N pc pc' : Nat} {lo : List (Nat × Value)} {st : List Value} {S : Nat → va_E} {a b : Nat} {rm : Nat × Nat × Nat × Nat}
theorem lX4_10 : Cond.fieldLink RX4 10 "WindFarmDispatcher" "farm" "LWindFarmDispatcher$Farm;" ∈ gw := gw_in (tb_1 175 (by decide +kernel)) (by decide +kernel)
theorem gX4_10 (h : OK X G N cc RX4 nL rm) {k : Nat} {fs : List Value} {v : Value} (hd : decode cc pc = .ok (.getfield 10, 3)) (hp : pc + 3 = pc') (hk : k < N) (hc : S k = .inr (4, fs)) (hv : fs[0]? = some v) (kk : AW X G nL N pc' lo (v :: st) S a b) : AW X G nL N pc lo (.ref (ad G k) :: st) S a b := r_get h hd hp hk hc hv rfl inX4 (j := 0) (by decide) ⟨rfl, rfl, rfl⟩ lX4_10 kk
theorem lX4_16 : Cond.fieldLink RX4 16 "WindFarmDispatcher" "trial" "LWindFarmDispatcher$Farm;" ∈ gw := gw_in (tb_1 176 (by decide +kernel)) (by decide +kernel)
theorem gX4_16 (h : OK X G N cc RX4 nL rm) {k : Nat} {fs : List Value} {v : Value} (hd : decode cc pc = .ok (.getfield 16, 3)) (hp : pc + 3 = pc') (hk : k < N) (hc : S k = .inr (4, fs)) (hv : fs[1]? = some v) (kk : AW X G nL N pc' lo (v :: st) S a b) : AW X G nL N pc lo (.ref (ad G k) :: st) S a b := r_get h hd hp hk hc hv rfl inX4 (j := 1) (by decide) ⟨rfl, rfl, rfl⟩ lX4_16 kk
theorem lX4_19 : Cond.fieldLink RX4 19 "WindFarmDispatcher" "snapshot" "LWindFarmDispatcher$Farm;" ∈ gw := gw_in (tb_1 177 (by decide +kernel)) (by decide +kernel)
theorem gX4_19 (h : OK X G N cc RX4 nL rm) {k : Nat} {fs : List Value} {v : Value} (hd : decode cc pc = .ok (.getfield 19, 3)) (hp : pc + 3 = pc') (hk : k < N) (hc : S k = .inr (4, fs)) (hv : fs[2]? = some v) (kk : AW X G nL N pc' lo (v :: st) S a b) : AW X G nL N pc lo (.ref (ad G k) :: st) S a b := r_get h hd hp hk hc hv rfl inX4 (j := 2) (by decide) ⟨rfl, rfl, rfl⟩ lX4_19 kk
theorem lX4_25 : Cond.fieldLink RX4 25 "WindFarmDispatcher" "history" "LWindFarmDispatcher$History;" ∈ gw := gw_in (tb_1 178 (by decide +kernel)) (by decide +kernel)
theorem gX4_25 (h : OK X G N cc RX4 nL rm) {k : Nat} {fs : List Value} {v : Value} (hd : decode cc pc = .ok (.getfield 25, 3)) (hp : pc + 3 = pc') (hk : k < N) (hc : S k = .inr (4, fs)) (hv : fs[3]? = some v) (kk : AW X G nL N pc' lo (v :: st) S a b) : AW X G nL N pc lo (.ref (ad G k) :: st) S a b := r_get h hd hp hk hc hv rfl inX4 (j := 3) (by decide) ⟨rfl, rfl, rfl⟩ lX4_25 kk
theorem lX4_32 : Cond.fieldLink RX4 32 "WindFarmDispatcher" "reader" "LWindFarmDispatcher$CommandReader;" ∈ gw := gw_in (tb_1 179 (by decide +kernel)) (by decide +kernel)
theorem gX4_32 (h : OK X G N cc RX4 nL rm) {k : Nat} {fs : List Value} {v : Value} (hd : decode cc pc = .ok (.getfield 32, 3)) (hp : pc + 3 = pc') (hk : k < N) (hc : S k = .inr (4, fs)) (hv : fs[4]? = some v) (kk : AW X G nL N pc' lo (v :: st) S a b) : AW X G nL N pc lo (.ref (ad G k) :: st) S a b := r_get h hd hp hk hc hv rfl inX4 (j := 4) (by decide) ⟨rfl, rfl, rfl⟩ lX4_32 kk
theorem lX4_39 : Cond.fieldLink RX4 39 "WindFarmDispatcher" "output" "LWindFarmDispatcher$Text;" ∈ gw := gw_in (tb_1 180 (by decide +kernel)) (by decide +kernel)
theorem gX4_39 (h : OK X G N cc RX4 nL rm) {k : Nat} {fs : List Value} {v : Value} (hd : decode cc pc = .ok (.getfield 39, 3)) (hp : pc + 3 = pc') (hk : k < N) (hc : S k = .inr (4, fs)) (hv : fs[5]? = some v) (kk : AW X G nL N pc' lo (v :: st) S a b) : AW X G nL N pc lo (.ref (ad G k) :: st) S a b := r_get h hd hp hk hc hv rfl inX4 (j := 5) (by decide) ⟨rfl, rfl, rfl⟩ lX4_39 kk
theorem lX4_43 : Cond.fieldLink RX4 43 "WindFarmDispatcher" "syntaxOffset" "I" ∈ gw := gw_in (tb_1 182 (by decide +kernel)) (by decide +kernel)
theorem gX4_43 (h : OK X G N cc RX4 nL rm) {k : Nat} {fs : List Value} {v : Value} (hd : decode cc pc = .ok (.getfield 43, 3)) (hp : pc + 3 = pc') (hk : k < N) (hc : S k = .inr (4, fs)) (hv : fs[7]? = some v) (kk : AW X G nL N pc' lo (v :: st) S a b) : AW X G nL N pc lo (.ref (ad G k) :: st) S a b := r_get h hd hp hk hc hv rfl inX4 (j := 7) (by decide) ⟨rfl, rfl, rfl⟩ lX4_43 kk
theorem pX4_43 (h : OK X G N cc RX4 nL rm) {k : Nat} {fs : List Value} {x : Int32} (hd : decode cc pc = .ok (.putfield 43, 3)) (hp : pc + 3 = pc') (hk : k < N) (hc : S k = .inr (4, fs)) (hlen : 7 < fs.length) (kk : AW X G nL N pc' lo st (va_up S k (.inr (4, fs.set 7 (.int x)))) a b) : AW X G nL N pc lo (.int x :: .ref (ad G k) :: st) S a b := r_put (ty := .int) h hd hp hk hc rfl inX4 tyX4_ok nmX4 (j := 7) (by decide) ⟨rfl, rfl, rfl⟩ lX4_43 rfl (by decide +kernel) rfl rfl hlen kk
theorem lX4_72 : Cond.fieldLink RX4 72 "WindFarmDispatcher$Farm" "count" "I" ∈ gw := gw_in (tb_1 53 (by decide +kernel)) (by decide +kernel)
theorem gX4_72 (h : OK X G N cc RX4 nL rm) {k : Nat} {fs : List Value} {v : Value} (hd : decode cc pc = .ok (.getfield 72, 3)) (hp : pc + 3 = pc') (hk : k < N) (hc : S k = .inr (1, fs)) (hv : fs[9]? = some v) (kk : AW X G nL N pc' lo (v :: st) S a b) : AW X G nL N pc lo (.ref (ad G k) :: st) S a b := r_get h hd hp hk hc hv rfl inX1 (j := 9) (by decide) ⟨rfl, rfl, rfl⟩ lX4_72 kk
theorem pX4_72 (h : OK X G N cc RX4 nL rm) {k : Nat} {fs : List Value} {x : Int32} (hd : decode cc pc = .ok (.putfield 72, 3)) (hp : pc + 3 = pc') (hk : k < N) (hc : S k = .inr (1, fs)) (hlen : 9 < fs.length) (kk : AW X G nL N pc' lo st (va_up S k (.inr (1, fs.set 9 (.int x)))) a b) : AW X G nL N pc lo (.int x :: .ref (ad G k) :: st) S a b := r_put (ty := .int) h hd hp hk hc rfl inX1 tyX1_ok nmX1 (j := 9) (by decide) ⟨rfl, rfl, rfl⟩ lX4_72 rfl (by decide +kernel) rfl rfl hlen kk
theorem lX4_98 : Cond.fieldLink RX4 98 "WindFarmDispatcher$Farm" "rows" "[I" ∈ gw := gw_in (tb_1 37 (by decide +kernel)) (by decide +kernel)
theorem gX4_98 (h : OK X G N cc RX4 nL rm) {k : Nat} {fs : List Value} {v : Value} (hd : decode cc pc = .ok (.getfield 98, 3)) (hp : pc + 3 = pc') (hk : k < N) (hc : S k = .inr (1, fs)) (hv : fs[0]? = some v) (kk : AW X G nL N pc' lo (v :: st) S a b) : AW X G nL N pc lo (.ref (ad G k) :: st) S a b := r_get h hd hp hk hc hv rfl inX1 (j := 0) (by decide) ⟨rfl, rfl, rfl⟩ lX4_98 kk
theorem lX4_106 : Cond.fieldLink RX4 106 "WindFarmDispatcher$Farm" "columns" "[I" ∈ gw := gw_in (tb_1 39 (by decide +kernel)) (by decide +kernel)
theorem gX4_106 (h : OK X G N cc RX4 nL rm) {k : Nat} {fs : List Value} {v : Value} (hd : decode cc pc = .ok (.getfield 106, 3)) (hp : pc + 3 = pc') (hk : k < N) (hc : S k = .inr (1, fs)) (hv : fs[1]? = some v) (kk : AW X G nL N pc' lo (v :: st) S a b) : AW X G nL N pc lo (.ref (ad G k) :: st) S a b := r_get h hd hp hk hc hv rfl inX1 (j := 1) (by decide) ⟨rfl, rfl, rfl⟩ lX4_106 kk
theorem lX4_109 : Cond.fieldLink RX4 109 "WindFarmDispatcher$Farm" "rated" "[I" ∈ gw := gw_in (tb_1 41 (by decide +kernel)) (by decide +kernel)
theorem gX4_109 (h : OK X G N cc RX4 nL rm) {k : Nat} {fs : List Value} {v : Value} (hd : decode cc pc = .ok (.getfield 109, 3)) (hp : pc + 3 = pc') (hk : k < N) (hc : S k = .inr (1, fs)) (hv : fs[2]? = some v) (kk : AW X G nL N pc' lo (v :: st) S a b) : AW X G nL N pc lo (.ref (ad G k) :: st) S a b := r_get h hd hp hk hc hv rfl inX1 (j := 2) (by decide) ⟨rfl, rfl, rfl⟩ lX4_109 kk
theorem lX4_121 : Cond.fieldLink RX4 121 "WindFarmDispatcher$Farm" "limits" "[I" ∈ gw := gw_in (tb_1 44 (by decide +kernel)) (by decide +kernel)
theorem gX4_121 (h : OK X G N cc RX4 nL rm) {k : Nat} {fs : List Value} {v : Value} (hd : decode cc pc = .ok (.getfield 121, 3)) (hp : pc + 3 = pc') (hk : k < N) (hc : S k = .inr (1, fs)) (hv : fs[4]? = some v) (kk : AW X G nL N pc' lo (v :: st) S a b) : AW X G nL N pc lo (.ref (ad G k) :: st) S a b := r_get h hd hp hk hc hv rfl inX1 (j := 4) (by decide) ⟨rfl, rfl, rfl⟩ lX4_121 kk
theorem lX4_126 : Cond.fieldLink RX4 126 "WindFarmDispatcher$Farm" "serviceHours" "[I" ∈ gw := gw_in (tb_1 46 (by decide +kernel)) (by decide +kernel)
theorem gX4_126 (h : OK X G N cc RX4 nL rm) {k : Nat} {fs : List Value} {v : Value} (hd : decode cc pc = .ok (.getfield 126, 3)) (hp : pc + 3 = pc') (hk : k < N) (hc : S k = .inr (1, fs)) (hv : fs[5]? = some v) (kk : AW X G nL N pc' lo (v :: st) S a b) : AW X G nL N pc lo (.ref (ad G k) :: st) S a b := r_get h hd hp hk hc hv rfl inX1 (j := 5) (by decide) ⟨rfl, rfl, rfl⟩ lX4_126 kk
theorem lX4_137 : Cond.fieldLink RX4 137 "WindFarmDispatcher$Farm" "direction" "C" ∈ gw := gw_in (tb_1 55 (by decide +kernel)) (by decide +kernel)
theorem gX4_137 (h : OK X G N cc RX4 nL rm) {k : Nat} {fs : List Value} {v : Value} (hd : decode cc pc = .ok (.getfield 137, 3)) (hp : pc + 3 = pc') (hk : k < N) (hc : S k = .inr (1, fs)) (hv : fs[10]? = some v) (kk : AW X G nL N pc' lo (v :: st) S a b) : AW X G nL N pc lo (.ref (ad G k) :: st) S a b := r_get h hd hp hk hc hv rfl inX1 (j := 10) (by decide) ⟨rfl, rfl, rfl⟩ lX4_137 kk
theorem pX4_137 (h : OK X G N cc RX4 nL rm) {k : Nat} {fs : List Value} {x : Int32} (hd : decode cc pc = .ok (.putfield 137, 3)) (hp : pc + 3 = pc') (hk : k < N) (hc : S k = .inr (1, fs)) (hlen : 10 < fs.length) (hn : narrow .char (.int x) = .int x) (hf : fits .char (.int x) = true) (kk : AW X G nL N pc' lo st (va_up S k (.inr (1, fs.set 10 (.int x)))) a b) : AW X G nL N pc lo (.int x :: .ref (ad G k) :: st) S a b := r_put (ty := .char) h hd hp hk hc rfl inX1 tyX1_ok nmX1 (j := 10) (by decide) ⟨rfl, rfl, rfl⟩ lX4_137 rfl (by decide +kernel) hn hf hlen kk
theorem lX4_141 : Cond.fieldLink RX4 141 "WindFarmDispatcher$Farm" "speed" "I" ∈ gw := gw_in (tb_1 57 (by decide +kernel)) (by decide +kernel)
theorem gX4_141 (h : OK X G N cc RX4 nL rm) {k : Nat} {fs : List Value} {v : Value} (hd : decode cc pc = .ok (.getfield 141, 3)) (hp : pc + 3 = pc') (hk : k < N) (hc : S k = .inr (1, fs)) (hv : fs[11]? = some v) (kk : AW X G nL N pc' lo (v :: st) S a b) : AW X G nL N pc lo (.ref (ad G k) :: st) S a b := r_get h hd hp hk hc hv rfl inX1 (j := 11) (by decide) ⟨rfl, rfl, rfl⟩ lX4_141 kk
theorem pX4_141 (h : OK X G N cc RX4 nL rm) {k : Nat} {fs : List Value} {x : Int32} (hd : decode cc pc = .ok (.putfield 141, 3)) (hp : pc + 3 = pc') (hk : k < N) (hc : S k = .inr (1, fs)) (hlen : 11 < fs.length) (kk : AW X G nL N pc' lo st (va_up S k (.inr (1, fs.set 11 (.int x)))) a b) : AW X G nL N pc lo (.int x :: .ref (ad G k) :: st) S a b := r_put (ty := .int) h hd hp hk hc rfl inX1 tyX1_ok nmX1 (j := 11) (by decide) ⟨rfl, rfl, rfl⟩ lX4_141 rfl (by decide +kernel) rfl rfl hlen kk
theorem lX4_186 : Cond.fieldLink RX4 186 "WindFarmDispatcher$Farm" "gridLimit" "I" ∈ gw := gw_in (tb_1 59 (by decide +kernel)) (by decide +kernel)
theorem gX4_186 (h : OK X G N cc RX4 nL rm) {k : Nat} {fs : List Value} {v : Value} (hd : decode cc pc = .ok (.getfield 186, 3)) (hp : pc + 3 = pc') (hk : k < N) (hc : S k = .inr (1, fs)) (hv : fs[12]? = some v) (kk : AW X G nL N pc' lo (v :: st) S a b) : AW X G nL N pc lo (.ref (ad G k) :: st) S a b := r_get h hd hp hk hc hv rfl inX1 (j := 12) (by decide) ⟨rfl, rfl, rfl⟩ lX4_186 kk
theorem pX4_186 (h : OK X G N cc RX4 nL rm) {k : Nat} {fs : List Value} {x : Int32} (hd : decode cc pc = .ok (.putfield 186, 3)) (hp : pc + 3 = pc') (hk : k < N) (hc : S k = .inr (1, fs)) (hlen : 12 < fs.length) (kk : AW X G nL N pc' lo st (va_up S k (.inr (1, fs.set 12 (.int x)))) a b) : AW X G nL N pc lo (.int x :: .ref (ad G k) :: st) S a b := r_put (ty := .int) h hd hp hk hc rfl inX1 tyX1_ok nmX1 (j := 12) (by decide) ⟨rfl, rfl, rfl⟩ lX4_186 rfl (by decide +kernel) rfl rfl hlen kk
theorem lX4_210 : Cond.fieldLink RX4 210 "WindFarmDispatcher$Farm" "prices" "[I" ∈ gw := gw_in (tb_1 49 (by decide +kernel)) (by decide +kernel)
theorem gX4_210 (h : OK X G N cc RX4 nL rm) {k : Nat} {fs : List Value} {v : Value} (hd : decode cc pc = .ok (.getfield 210, 3)) (hp : pc + 3 = pc') (hk : k < N) (hc : S k = .inr (1, fs)) (hv : fs[7]? = some v) (kk : AW X G nL N pc' lo (v :: st) S a b) : AW X G nL N pc lo (.ref (ad G k) :: st) S a b := r_get h hd hp hk hc hv rfl inX1 (j := 7) (by decide) ⟨rfl, rfl, rfl⟩ lX4_210 kk
theorem lX4_213 : Cond.fieldLink RX4 213 "WindFarmDispatcher$Farm" "quantities" "[I" ∈ gw := gw_in (tb_1 51 (by decide +kernel)) (by decide +kernel)
theorem gX4_213 (h : OK X G N cc RX4 nL rm) {k : Nat} {fs : List Value} {v : Value} (hd : decode cc pc = .ok (.getfield 213, 3)) (hp : pc + 3 = pc') (hk : k < N) (hc : S k = .inr (1, fs)) (hv : fs[8]? = some v) (kk : AW X G nL N pc' lo (v :: st) S a b) : AW X G nL N pc lo (.ref (ad G k) :: st) S a b := r_get h hd hp hk hc hv rfl inX1 (j := 8) (by decide) ⟨rfl, rfl, rfl⟩ lX4_213 kk
theorem lX4_224 : Cond.fieldLink RX4 224 "WindFarmDispatcher$Farm" "hoursPassed" "I" ∈ gw := gw_in (tb_1 61 (by decide +kernel)) (by decide +kernel)
theorem gX4_224 (h : OK X G N cc RX4 nL rm) {k : Nat} {fs : List Value} {v : Value} (hd : decode cc pc = .ok (.getfield 224, 3)) (hp : pc + 3 = pc') (hk : k < N) (hc : S k = .inr (1, fs)) (hv : fs[13]? = some v) (kk : AW X G nL N pc' lo (v :: st) S a b) : AW X G nL N pc lo (.ref (ad G k) :: st) S a b := r_get h hd hp hk hc hv rfl inX1 (j := 13) (by decide) ⟨rfl, rfl, rfl⟩ lX4_224 kk
theorem pX4_224 (h : OK X G N cc RX4 nL rm) {k : Nat} {fs : List Value} {x : Int32} (hd : decode cc pc = .ok (.putfield 224, 3)) (hp : pc + 3 = pc') (hk : k < N) (hc : S k = .inr (1, fs)) (hlen : 13 < fs.length) (kk : AW X G nL N pc' lo st (va_up S k (.inr (1, fs.set 13 (.int x)))) a b) : AW X G nL N pc lo (.int x :: .ref (ad G k) :: st) S a b := r_put (ty := .int) h hd hp hk hc rfl inX1 tyX1_ok nmX1 (j := 13) (by decide) ⟨rfl, rfl, rfl⟩ lX4_224 rfl (by decide +kernel) rfl rfl hlen kk
theorem lX4_237 : Cond.fieldLink RX4 237 "WindFarmDispatcher$Farm" "coins" "J" ∈ gw := gw_in (tb_1 71 (by decide +kernel)) (by decide +kernel)
theorem gX4_237 (h : OK X G N cc RX4 nL rm) {k : Nat} {fs : List Value} {v : Value} (hd : decode cc pc = .ok (.getfield 237, 3)) (hp : pc + 3 = pc') (hk : k < N) (hc : S k = .inr (1, fs)) (hv : fs[18]? = some v) (kk : AW X G nL N pc' lo (v :: st) S a b) : AW X G nL N pc lo (.ref (ad G k) :: st) S a b := r_get h hd hp hk hc hv rfl inX1 (j := 18) (by decide) ⟨rfl, rfl, rfl⟩ lX4_237 kk
theorem pX4_237 (h : OK X G N cc RX4 nL rm) {k : Nat} {fs : List Value} {x : Int64} (hd : decode cc pc = .ok (.putfield 237, 3)) (hp : pc + 3 = pc') (hk : k < N) (hc : S k = .inr (1, fs)) (hlen : 18 < fs.length) (kk : AW X G nL N pc' lo st (va_up S k (.inr (1, fs.set 18 (.long x)))) a b) : AW X G nL N pc lo (.long x :: .ref (ad G k) :: st) S a b := r_put (ty := .long) h hd hp hk hc rfl inX1 tyX1_ok nmX1 (j := 18) (by decide) ⟨rfl, rfl, rfl⟩ lX4_237 rfl (by decide +kernel) rfl rfl hlen kk
theorem lX4_243 : Cond.fieldLink RX4 243 "WindFarmDispatcher$Farm" "made" "J" ∈ gw := gw_in (tb_1 63 (by decide +kernel)) (by decide +kernel)
theorem gX4_243 (h : OK X G N cc RX4 nL rm) {k : Nat} {fs : List Value} {v : Value} (hd : decode cc pc = .ok (.getfield 243, 3)) (hp : pc + 3 = pc') (hk : k < N) (hc : S k = .inr (1, fs)) (hv : fs[14]? = some v) (kk : AW X G nL N pc' lo (v :: st) S a b) : AW X G nL N pc lo (.ref (ad G k) :: st) S a b := r_get h hd hp hk hc hv rfl inX1 (j := 14) (by decide) ⟨rfl, rfl, rfl⟩ lX4_243 kk
theorem pX4_243 (h : OK X G N cc RX4 nL rm) {k : Nat} {fs : List Value} {x : Int64} (hd : decode cc pc = .ok (.putfield 243, 3)) (hp : pc + 3 = pc') (hk : k < N) (hc : S k = .inr (1, fs)) (hlen : 14 < fs.length) (kk : AW X G nL N pc' lo st (va_up S k (.inr (1, fs.set 14 (.long x)))) a b) : AW X G nL N pc lo (.long x :: .ref (ad G k) :: st) S a b := r_put (ty := .long) h hd hp hk hc rfl inX1 tyX1_ok nmX1 (j := 14) (by decide) ⟨rfl, rfl, rfl⟩ lX4_243 rfl (by decide +kernel) rfl rfl hlen kk
theorem lX4_246 : Cond.fieldLink RX4 246 "WindFarmDispatcher$Farm" "lost" "J" ∈ gw := gw_in (tb_1 65 (by decide +kernel)) (by decide +kernel)
theorem gX4_246 (h : OK X G N cc RX4 nL rm) {k : Nat} {fs : List Value} {v : Value} (hd : decode cc pc = .ok (.getfield 246, 3)) (hp : pc + 3 = pc') (hk : k < N) (hc : S k = .inr (1, fs)) (hv : fs[15]? = some v) (kk : AW X G nL N pc' lo (v :: st) S a b) : AW X G nL N pc lo (.ref (ad G k) :: st) S a b := r_get h hd hp hk hc hv rfl inX1 (j := 15) (by decide) ⟨rfl, rfl, rfl⟩ lX4_246 kk
theorem pX4_246 (h : OK X G N cc RX4 nL rm) {k : Nat} {fs : List Value} {x : Int64} (hd : decode cc pc = .ok (.putfield 246, 3)) (hp : pc + 3 = pc') (hk : k < N) (hc : S k = .inr (1, fs)) (hlen : 15 < fs.length) (kk : AW X G nL N pc' lo st (va_up S k (.inr (1, fs.set 15 (.long x)))) a b) : AW X G nL N pc lo (.long x :: .ref (ad G k) :: st) S a b := r_put (ty := .long) h hd hp hk hc rfl inX1 tyX1_ok nmX1 (j := 15) (by decide) ⟨rfl, rfl, rfl⟩ lX4_246 rfl (by decide +kernel) rfl rfl hlen kk
theorem lX4_249 : Cond.fieldLink RX4 249 "WindFarmDispatcher$Farm" "sold" "J" ∈ gw := gw_in (tb_1 67 (by decide +kernel)) (by decide +kernel)
theorem gX4_249 (h : OK X G N cc RX4 nL rm) {k : Nat} {fs : List Value} {v : Value} (hd : decode cc pc = .ok (.getfield 249, 3)) (hp : pc + 3 = pc') (hk : k < N) (hc : S k = .inr (1, fs)) (hv : fs[16]? = some v) (kk : AW X G nL N pc' lo (v :: st) S a b) : AW X G nL N pc lo (.ref (ad G k) :: st) S a b := r_get h hd hp hk hc hv rfl inX1 (j := 16) (by decide) ⟨rfl, rfl, rfl⟩ lX4_249 kk
theorem pX4_249 (h : OK X G N cc RX4 nL rm) {k : Nat} {fs : List Value} {x : Int64} (hd : decode cc pc = .ok (.putfield 249, 3)) (hp : pc + 3 = pc') (hk : k < N) (hc : S k = .inr (1, fs)) (hlen : 16 < fs.length) (kk : AW X G nL N pc' lo st (va_up S k (.inr (1, fs.set 16 (.long x)))) a b) : AW X G nL N pc lo (.long x :: .ref (ad G k) :: st) S a b := r_put (ty := .long) h hd hp hk hc rfl inX1 tyX1_ok nmX1 (j := 16) (by decide) ⟨rfl, rfl, rfl⟩ lX4_249 rfl (by decide +kernel) rfl rfl hlen kk
theorem lX4_252 : Cond.fieldLink RX4 252 "WindFarmDispatcher$Farm" "spilled" "J" ∈ gw := gw_in (tb_1 69 (by decide +kernel)) (by decide +kernel)
theorem gX4_252 (h : OK X G N cc RX4 nL rm) {k : Nat} {fs : List Value} {v : Value} (hd : decode cc pc = .ok (.getfield 252, 3)) (hp : pc + 3 = pc') (hk : k < N) (hc : S k = .inr (1, fs)) (hv : fs[17]? = some v) (kk : AW X G nL N pc' lo (v :: st) S a b) : AW X G nL N pc lo (.ref (ad G k) :: st) S a b := r_get h hd hp hk hc hv rfl inX1 (j := 17) (by decide) ⟨rfl, rfl, rfl⟩ lX4_252 kk
theorem pX4_252 (h : OK X G N cc RX4 nL rm) {k : Nat} {fs : List Value} {x : Int64} (hd : decode cc pc = .ok (.putfield 252, 3)) (hp : pc + 3 = pc') (hk : k < N) (hc : S k = .inr (1, fs)) (hlen : 17 < fs.length) (kk : AW X G nL N pc' lo st (va_up S k (.inr (1, fs.set 17 (.long x)))) a b) : AW X G nL N pc lo (.long x :: .ref (ad G k) :: st) S a b := r_put (ty := .long) h hd hp hk hc rfl inX1 tyX1_ok nmX1 (j := 17) (by decide) ⟨rfl, rfl, rfl⟩ lX4_252 rfl (by decide +kernel) rfl rfl hlen kk
theorem lX4_281 : Cond.fieldLink RX4 281 "WindFarmDispatcher$Text" "length" "I" ∈ gw := gw_in (tb_1 147 (by decide +kernel)) (by decide +kernel)
theorem gX4_281 (h : OK X G N cc RX4 nL rm) {k : Nat} {fs : List Value} {v : Value} (hd : decode cc pc = .ok (.getfield 281, 3)) (hp : pc + 3 = pc') (hk : k < N) (hc : S k = .inr (3, fs)) (hv : fs[1]? = some v) (kk : AW X G nL N pc' lo (v :: st) S a b) : AW X G nL N pc lo (.ref (ad G k) :: st) S a b := r_get h hd hp hk hc hv rfl inX3 (j := 1) (by decide) ⟨rfl, rfl, rfl⟩ lX4_281 kk
theorem pX4_281 (h : OK X G N cc RX4 nL rm) {k : Nat} {fs : List Value} {x : Int32} (hd : decode cc pc = .ok (.putfield 281, 3)) (hp : pc + 3 = pc') (hk : k < N) (hc : S k = .inr (3, fs)) (hlen : 1 < fs.length) (kk : AW X G nL N pc' lo st (va_up S k (.inr (3, fs.set 1 (.int x)))) a b) : AW X G nL N pc lo (.int x :: .ref (ad G k) :: st) S a b := r_put (ty := .int) h hd hp hk hc rfl inX3 tyX3_ok nmX3 (j := 1) (by decide) ⟨rfl, rfl, rfl⟩ lX4_281 rfl (by decide +kernel) rfl rfl hlen kk
theorem lX4_290 : Cond.fieldLink RX4 290 "WindFarmDispatcher$CommandReader" "input" "LWindFarmDispatcher$Text;" ∈ gw := gw_in (tb_1 155 (by decide +kernel)) (by decide +kernel)
theorem gX4_290 (h : OK X G N cc RX4 nL rm) {k : Nat} {fs : List Value} {v : Value} (hd : decode cc pc = .ok (.getfield 290, 3)) (hp : pc + 3 = pc') (hk : k < N) (hc : S k = .inr (0, fs)) (hv : fs[0]? = some v) (kk : AW X G nL N pc' lo (v :: st) S a b) : AW X G nL N pc lo (.ref (ad G k) :: st) S a b := r_get h hd hp hk hc hv rfl inX0 (j := 0) (by decide) ⟨rfl, rfl, rfl⟩ lX4_290 kk
theorem lX4_301 : Cond.fieldLink RX4 301 "WindFarmDispatcher$CommandReader" "position" "I" ∈ gw := gw_in (tb_1 159 (by decide +kernel)) (by decide +kernel)
theorem gX4_301 (h : OK X G N cc RX4 nL rm) {k : Nat} {fs : List Value} {v : Value} (hd : decode cc pc = .ok (.getfield 301, 3)) (hp : pc + 3 = pc') (hk : k < N) (hc : S k = .inr (0, fs)) (hv : fs[3]? = some v) (kk : AW X G nL N pc' lo (v :: st) S a b) : AW X G nL N pc lo (.ref (ad G k) :: st) S a b := r_get h hd hp hk hc hv rfl inX0 (j := 3) (by decide) ⟨rfl, rfl, rfl⟩ lX4_301 kk
theorem pX4_301 (h : OK X G N cc RX4 nL rm) {k : Nat} {fs : List Value} {x : Int32} (hd : decode cc pc = .ok (.putfield 301, 3)) (hp : pc + 3 = pc') (hk : k < N) (hc : S k = .inr (0, fs)) (hlen : 3 < fs.length) (kk : AW X G nL N pc' lo st (va_up S k (.inr (0, fs.set 3 (.int x)))) a b) : AW X G nL N pc lo (.int x :: .ref (ad G k) :: st) S a b := r_put (ty := .int) h hd hp hk hc rfl inX0 tyX0_ok nmX0 (j := 3) (by decide) ⟨rfl, rfl, rfl⟩ lX4_301 rfl (by decide +kernel) rfl rfl hlen kk
theorem lX4_316 : Cond.fieldLink RX4 316 "WindFarmDispatcher$CommandReader" "order" "C" ∈ gw := gw_in (tb_1 161 (by decide +kernel)) (by decide +kernel)
theorem gX4_316 (h : OK X G N cc RX4 nL rm) {k : Nat} {fs : List Value} {v : Value} (hd : decode cc pc = .ok (.getfield 316, 3)) (hp : pc + 3 = pc') (hk : k < N) (hc : S k = .inr (0, fs)) (hv : fs[4]? = some v) (kk : AW X G nL N pc' lo (v :: st) S a b) : AW X G nL N pc lo (.ref (ad G k) :: st) S a b := r_get h hd hp hk hc hv rfl inX0 (j := 4) (by decide) ⟨rfl, rfl, rfl⟩ lX4_316 kk
theorem pX4_316 (h : OK X G N cc RX4 nL rm) {k : Nat} {fs : List Value} {x : Int32} (hd : decode cc pc = .ok (.putfield 316, 3)) (hp : pc + 3 = pc') (hk : k < N) (hc : S k = .inr (0, fs)) (hlen : 4 < fs.length) (hn : narrow .char (.int x) = .int x) (hf : fits .char (.int x) = true) (kk : AW X G nL N pc' lo st (va_up S k (.inr (0, fs.set 4 (.int x)))) a b) : AW X G nL N pc lo (.int x :: .ref (ad G k) :: st) S a b := r_put (ty := .char) h hd hp hk hc rfl inX0 tyX0_ok nmX0 (j := 4) (by decide) ⟨rfl, rfl, rfl⟩ lX4_316 rfl (by decide +kernel) hn hf hlen kk
theorem lX4_338 : Cond.fieldLink RX4 338 "WindFarmDispatcher" "reason" "I" ∈ gw := gw_in (tb_1 183 (by decide +kernel)) (by decide +kernel)
theorem gX4_338 (h : OK X G N cc RX4 nL rm) {k : Nat} {fs : List Value} {v : Value} (hd : decode cc pc = .ok (.getfield 338, 3)) (hp : pc + 3 = pc') (hk : k < N) (hc : S k = .inr (4, fs)) (hv : fs[8]? = some v) (kk : AW X G nL N pc' lo (v :: st) S a b) : AW X G nL N pc lo (.ref (ad G k) :: st) S a b := r_get h hd hp hk hc hv rfl inX4 (j := 8) (by decide) ⟨rfl, rfl, rfl⟩ lX4_338 kk
theorem pX4_338 (h : OK X G N cc RX4 nL rm) {k : Nat} {fs : List Value} {x : Int32} (hd : decode cc pc = .ok (.putfield 338, 3)) (hp : pc + 3 = pc') (hk : k < N) (hc : S k = .inr (4, fs)) (hlen : 8 < fs.length) (kk : AW X G nL N pc' lo st (va_up S k (.inr (4, fs.set 8 (.int x)))) a b) : AW X G nL N pc lo (.int x :: .ref (ad G k) :: st) S a b := r_put (ty := .int) h hd hp hk hc rfl inX4 tyX4_ok nmX4 (j := 8) (by decide) ⟨rfl, rfl, rfl⟩ lX4_338 rfl (by decide +kernel) rfl rfl hlen kk
theorem lX4_341 : Cond.fieldLink RX4 341 "WindFarmDispatcher" "detail" "I" ∈ gw := gw_in (tb_1 184 (by decide +kernel)) (by decide +kernel)
theorem gX4_341 (h : OK X G N cc RX4 nL rm) {k : Nat} {fs : List Value} {v : Value} (hd : decode cc pc = .ok (.getfield 341, 3)) (hp : pc + 3 = pc') (hk : k < N) (hc : S k = .inr (4, fs)) (hv : fs[9]? = some v) (kk : AW X G nL N pc' lo (v :: st) S a b) : AW X G nL N pc lo (.ref (ad G k) :: st) S a b := r_get h hd hp hk hc hv rfl inX4 (j := 9) (by decide) ⟨rfl, rfl, rfl⟩ lX4_341 kk
theorem pX4_341 (h : OK X G N cc RX4 nL rm) {k : Nat} {fs : List Value} {x : Int32} (hd : decode cc pc = .ok (.putfield 341, 3)) (hp : pc + 3 = pc') (hk : k < N) (hc : S k = .inr (4, fs)) (hlen : 9 < fs.length) (kk : AW X G nL N pc' lo st (va_up S k (.inr (4, fs.set 9 (.int x)))) a b) : AW X G nL N pc lo (.int x :: .ref (ad G k) :: st) S a b := r_put (ty := .int) h hd hp hk hc rfl inX4 tyX4_ok nmX4 (j := 9) (by decide) ⟨rfl, rfl, rfl⟩ lX4_341 rfl (by decide +kernel) rfl rfl hlen kk
theorem lX4_346 : Cond.fieldLink RX4 346 "WindFarmDispatcher" "cause" "I" ∈ gw := gw_in (tb_1 185 (by decide +kernel)) (by decide +kernel)
theorem gX4_346 (h : OK X G N cc RX4 nL rm) {k : Nat} {fs : List Value} {v : Value} (hd : decode cc pc = .ok (.getfield 346, 3)) (hp : pc + 3 = pc') (hk : k < N) (hc : S k = .inr (4, fs)) (hv : fs[10]? = some v) (kk : AW X G nL N pc' lo (v :: st) S a b) : AW X G nL N pc lo (.ref (ad G k) :: st) S a b := r_get h hd hp hk hc hv rfl inX4 (j := 10) (by decide) ⟨rfl, rfl, rfl⟩ lX4_346 kk
theorem pX4_346 (h : OK X G N cc RX4 nL rm) {k : Nat} {fs : List Value} {x : Int32} (hd : decode cc pc = .ok (.putfield 346, 3)) (hp : pc + 3 = pc') (hk : k < N) (hc : S k = .inr (4, fs)) (hlen : 10 < fs.length) (kk : AW X G nL N pc' lo st (va_up S k (.inr (4, fs.set 10 (.int x)))) a b) : AW X G nL N pc lo (.int x :: .ref (ad G k) :: st) S a b := r_put (ty := .int) h hd hp hk hc rfl inX4 tyX4_ok nmX4 (j := 10) (by decide) ⟨rfl, rfl, rfl⟩ lX4_346 rfl (by decide +kernel) rfl rfl hlen kk
theorem lX4_349 : Cond.fieldLink RX4 349 "WindFarmDispatcher$History" "size" "I" ∈ gw := gw_in (tb_1 124 (by decide +kernel)) (by decide +kernel)
theorem gX4_349 (h : OK X G N cc RX4 nL rm) {k : Nat} {fs : List Value} {v : Value} (hd : decode cc pc = .ok (.getfield 349, 3)) (hp : pc + 3 = pc') (hk : k < N) (hc : S k = .inr (2, fs)) (hv : fs[2]? = some v) (kk : AW X G nL N pc' lo (v :: st) S a b) : AW X G nL N pc lo (.ref (ad G k) :: st) S a b := r_get h hd hp hk hc hv rfl inX2 (j := 2) (by decide) ⟨rfl, rfl, rfl⟩ lX4_349 kk
theorem pX4_349 (h : OK X G N cc RX4 nL rm) {k : Nat} {fs : List Value} {x : Int32} (hd : decode cc pc = .ok (.putfield 349, 3)) (hp : pc + 3 = pc') (hk : k < N) (hc : S k = .inr (2, fs)) (hlen : 2 < fs.length) (kk : AW X G nL N pc' lo st (va_up S k (.inr (2, fs.set 2 (.int x)))) a b) : AW X G nL N pc lo (.int x :: .ref (ad G k) :: st) S a b := r_put (ty := .int) h hd hp hk hc rfl inX2 tyX2_ok nmX2 (j := 2) (by decide) ⟨rfl, rfl, rfl⟩ lX4_349 rfl (by decide +kernel) rfl rfl hlen kk
theorem lX4_357 : Cond.fieldLink RX4 357 "WindFarmDispatcher" "hasSnapshot" "Z" ∈ gw := gw_in (tb_1 181 (by decide +kernel)) (by decide +kernel)
theorem gX4_357 (h : OK X G N cc RX4 nL rm) {k : Nat} {fs : List Value} {v : Value} (hd : decode cc pc = .ok (.getfield 357, 3)) (hp : pc + 3 = pc') (hk : k < N) (hc : S k = .inr (4, fs)) (hv : fs[6]? = some v) (kk : AW X G nL N pc' lo (v :: st) S a b) : AW X G nL N pc lo (.ref (ad G k) :: st) S a b := r_get h hd hp hk hc hv rfl inX4 (j := 6) (by decide) ⟨rfl, rfl, rfl⟩ lX4_357 kk
theorem pX4_357 (h : OK X G N cc RX4 nL rm) {k : Nat} {fs : List Value} {x : Int32} (hd : decode cc pc = .ok (.putfield 357, 3)) (hp : pc + 3 = pc') (hk : k < N) (hc : S k = .inr (4, fs)) (hlen : 6 < fs.length) (hn : narrow .boolean (.int x) = .int x) (hf : fits .boolean (.int x) = true) (kk : AW X G nL N pc' lo st (va_up S k (.inr (4, fs.set 6 (.int x)))) a b) : AW X G nL N pc lo (.int x :: .ref (ad G k) :: st) S a b := r_put (ty := .boolean) h hd hp hk hc rfl inX4 tyX4_ok nmX4 (j := 6) (by decide) ⟨rfl, rfl, rfl⟩ lX4_357 rfl (by decide +kernel) hn hf hlen kk
theorem lX0_12 : Cond.fieldLink RX0 12 "WindFarmDispatcher$CommandReader" "input" "LWindFarmDispatcher$Text;" ∈ gw := gw_in (tb_1 154 (by decide +kernel)) (by decide +kernel)
theorem gX0_12 (h : OK X G N cc RX0 nL rm) {k : Nat} {fs : List Value} {v : Value} (hd : decode cc pc = .ok (.getfield 12, 3)) (hp : pc + 3 = pc') (hk : k < N) (hc : S k = .inr (0, fs)) (hv : fs[0]? = some v) (kk : AW X G nL N pc' lo (v :: st) S a b) : AW X G nL N pc lo (.ref (ad G k) :: st) S a b := r_get h hd hp hk hc hv rfl inX0 (j := 0) (by decide) ⟨rfl, rfl, rfl⟩ lX0_12 kk
theorem lX0_18 : Cond.fieldLink RX0 18 "WindFarmDispatcher$CommandReader" "arguments" "[I" ∈ gw := gw_in (tb_1 156 (by decide +kernel)) (by decide +kernel)
theorem gX0_18 (h : OK X G N cc RX0 nL rm) {k : Nat} {fs : List Value} {v : Value} (hd : decode cc pc = .ok (.getfield 18, 3)) (hp : pc + 3 = pc') (hk : k < N) (hc : S k = .inr (0, fs)) (hv : fs[1]? = some v) (kk : AW X G nL N pc' lo (v :: st) S a b) : AW X G nL N pc lo (.ref (ad G k) :: st) S a b := r_get h hd hp hk hc hv rfl inX0 (j := 1) (by decide) ⟨rfl, rfl, rfl⟩ lX0_18 kk
theorem lX0_22 : Cond.fieldLink RX0 22 "WindFarmDispatcher$CommandReader" "position" "I" ∈ gw := gw_in (tb_1 158 (by decide +kernel)) (by decide +kernel)
theorem gX0_22 (h : OK X G N cc RX0 nL rm) {k : Nat} {fs : List Value} {v : Value} (hd : decode cc pc = .ok (.getfield 22, 3)) (hp : pc + 3 = pc') (hk : k < N) (hc : S k = .inr (0, fs)) (hv : fs[3]? = some v) (kk : AW X G nL N pc' lo (v :: st) S a b) : AW X G nL N pc lo (.ref (ad G k) :: st) S a b := r_get h hd hp hk hc hv rfl inX0 (j := 3) (by decide) ⟨rfl, rfl, rfl⟩ lX0_22 kk
theorem pX0_22 (h : OK X G N cc RX0 nL rm) {k : Nat} {fs : List Value} {x : Int32} (hd : decode cc pc = .ok (.putfield 22, 3)) (hp : pc + 3 = pc') (hk : k < N) (hc : S k = .inr (0, fs)) (hlen : 3 < fs.length) (kk : AW X G nL N pc' lo st (va_up S k (.inr (0, fs.set 3 (.int x)))) a b) : AW X G nL N pc lo (.int x :: .ref (ad G k) :: st) S a b := r_put (ty := .int) h hd hp hk hc rfl inX0 tyX0_ok nmX0 (j := 3) (by decide) ⟨rfl, rfl, rfl⟩ lX0_22 rfl (by decide +kernel) rfl rfl hlen kk
theorem lX0_26 : Cond.fieldLink RX0 26 "WindFarmDispatcher$CommandReader" "argumentCount" "I" ∈ gw := gw_in (tb_1 157 (by decide +kernel)) (by decide +kernel)
theorem gX0_26 (h : OK X G N cc RX0 nL rm) {k : Nat} {fs : List Value} {v : Value} (hd : decode cc pc = .ok (.getfield 26, 3)) (hp : pc + 3 = pc') (hk : k < N) (hc : S k = .inr (0, fs)) (hv : fs[2]? = some v) (kk : AW X G nL N pc' lo (v :: st) S a b) : AW X G nL N pc lo (.ref (ad G k) :: st) S a b := r_get h hd hp hk hc hv rfl inX0 (j := 2) (by decide) ⟨rfl, rfl, rfl⟩ lX0_26 kk
theorem pX0_26 (h : OK X G N cc RX0 nL rm) {k : Nat} {fs : List Value} {x : Int32} (hd : decode cc pc = .ok (.putfield 26, 3)) (hp : pc + 3 = pc') (hk : k < N) (hc : S k = .inr (0, fs)) (hlen : 2 < fs.length) (kk : AW X G nL N pc' lo st (va_up S k (.inr (0, fs.set 2 (.int x)))) a b) : AW X G nL N pc lo (.int x :: .ref (ad G k) :: st) S a b := r_put (ty := .int) h hd hp hk hc rfl inX0 tyX0_ok nmX0 (j := 2) (by decide) ⟨rfl, rfl, rfl⟩ lX0_26 rfl (by decide +kernel) rfl rfl hlen kk
theorem lX0_40 : Cond.fieldLink RX0 40 "WindFarmDispatcher$Text" "length" "I" ∈ gw := gw_in (tb_1 146 (by decide +kernel)) (by decide +kernel)
theorem gX0_40 (h : OK X G N cc RX0 nL rm) {k : Nat} {fs : List Value} {v : Value} (hd : decode cc pc = .ok (.getfield 40, 3)) (hp : pc + 3 = pc') (hk : k < N) (hc : S k = .inr (3, fs)) (hv : fs[1]? = some v) (kk : AW X G nL N pc' lo (v :: st) S a b) : AW X G nL N pc lo (.ref (ad G k) :: st) S a b := r_get h hd hp hk hc hv rfl inX3 (j := 1) (by decide) ⟨rfl, rfl, rfl⟩ lX0_40 kk
theorem pX0_40 (h : OK X G N cc RX0 nL rm) {k : Nat} {fs : List Value} {x : Int32} (hd : decode cc pc = .ok (.putfield 40, 3)) (hp : pc + 3 = pc') (hk : k < N) (hc : S k = .inr (3, fs)) (hlen : 1 < fs.length) (kk : AW X G nL N pc' lo st (va_up S k (.inr (3, fs.set 1 (.int x)))) a b) : AW X G nL N pc lo (.int x :: .ref (ad G k) :: st) S a b := r_put (ty := .int) h hd hp hk hc rfl inX3 tyX3_ok nmX3 (j := 1) (by decide) ⟨rfl, rfl, rfl⟩ lX0_40 rfl (by decide +kernel) rfl rfl hlen kk
theorem lX0_55 : Cond.fieldLink RX0 55 "WindFarmDispatcher$CommandReader" "order" "C" ∈ gw := gw_in (tb_1 160 (by decide +kernel)) (by decide +kernel)
theorem gX0_55 (h : OK X G N cc RX0 nL rm) {k : Nat} {fs : List Value} {v : Value} (hd : decode cc pc = .ok (.getfield 55, 3)) (hp : pc + 3 = pc') (hk : k < N) (hc : S k = .inr (0, fs)) (hv : fs[4]? = some v) (kk : AW X G nL N pc' lo (v :: st) S a b) : AW X G nL N pc lo (.ref (ad G k) :: st) S a b := r_get h hd hp hk hc hv rfl inX0 (j := 4) (by decide) ⟨rfl, rfl, rfl⟩ lX0_55 kk
theorem pX0_55 (h : OK X G N cc RX0 nL rm) {k : Nat} {fs : List Value} {x : Int32} (hd : decode cc pc = .ok (.putfield 55, 3)) (hp : pc + 3 = pc') (hk : k < N) (hc : S k = .inr (0, fs)) (hlen : 4 < fs.length) (hn : narrow .char (.int x) = .int x) (hf : fits .char (.int x) = true) (kk : AW X G nL N pc' lo st (va_up S k (.inr (0, fs.set 4 (.int x)))) a b) : AW X G nL N pc lo (.int x :: .ref (ad G k) :: st) S a b := r_put (ty := .char) h hd hp hk hc rfl inX0 tyX0_ok nmX0 (j := 4) (by decide) ⟨rfl, rfl, rfl⟩ lX0_55 rfl (by decide +kernel) hn hf hlen kk
theorem lX1_11 : Cond.fieldLink RX1 11 "WindFarmDispatcher$Farm" "rows" "[I" ∈ gw := gw_in (tb_1 36 (by decide +kernel)) (by decide +kernel)
theorem gX1_11 (h : OK X G N cc RX1 nL rm) {k : Nat} {fs : List Value} {v : Value} (hd : decode cc pc = .ok (.getfield 11, 3)) (hp : pc + 3 = pc') (hk : k < N) (hc : S k = .inr (1, fs)) (hv : fs[0]? = some v) (kk : AW X G nL N pc' lo (v :: st) S a b) : AW X G nL N pc lo (.ref (ad G k) :: st) S a b := r_get h hd hp hk hc hv rfl inX1 (j := 0) (by decide) ⟨rfl, rfl, rfl⟩ lX1_11 kk
theorem lX1_15 : Cond.fieldLink RX1 15 "WindFarmDispatcher$Farm" "columns" "[I" ∈ gw := gw_in (tb_1 38 (by decide +kernel)) (by decide +kernel)
theorem gX1_15 (h : OK X G N cc RX1 nL rm) {k : Nat} {fs : List Value} {v : Value} (hd : decode cc pc = .ok (.getfield 15, 3)) (hp : pc + 3 = pc') (hk : k < N) (hc : S k = .inr (1, fs)) (hv : fs[1]? = some v) (kk : AW X G nL N pc' lo (v :: st) S a b) : AW X G nL N pc lo (.ref (ad G k) :: st) S a b := r_get h hd hp hk hc hv rfl inX1 (j := 1) (by decide) ⟨rfl, rfl, rfl⟩ lX1_15 kk
theorem lX1_18 : Cond.fieldLink RX1 18 "WindFarmDispatcher$Farm" "rated" "[I" ∈ gw := gw_in (tb_1 40 (by decide +kernel)) (by decide +kernel)
theorem gX1_18 (h : OK X G N cc RX1 nL rm) {k : Nat} {fs : List Value} {v : Value} (hd : decode cc pc = .ok (.getfield 18, 3)) (hp : pc + 3 = pc') (hk : k < N) (hc : S k = .inr (1, fs)) (hv : fs[2]? = some v) (kk : AW X G nL N pc' lo (v :: st) S a b) : AW X G nL N pc lo (.ref (ad G k) :: st) S a b := r_get h hd hp hk hc hv rfl inX1 (j := 2) (by decide) ⟨rfl, rfl, rfl⟩ lX1_18 kk
theorem lX1_21 : Cond.fieldLink RX1 21 "WindFarmDispatcher$Farm" "states" "[I" ∈ gw := gw_in (tb_1 42 (by decide +kernel)) (by decide +kernel)
theorem gX1_21 (h : OK X G N cc RX1 nL rm) {k : Nat} {fs : List Value} {v : Value} (hd : decode cc pc = .ok (.getfield 21, 3)) (hp : pc + 3 = pc') (hk : k < N) (hc : S k = .inr (1, fs)) (hv : fs[3]? = some v) (kk : AW X G nL N pc' lo (v :: st) S a b) : AW X G nL N pc lo (.ref (ad G k) :: st) S a b := r_get h hd hp hk hc hv rfl inX1 (j := 3) (by decide) ⟨rfl, rfl, rfl⟩ lX1_21 kk
theorem lX1_24 : Cond.fieldLink RX1 24 "WindFarmDispatcher$Farm" "limits" "[I" ∈ gw := gw_in (tb_1 43 (by decide +kernel)) (by decide +kernel)
theorem gX1_24 (h : OK X G N cc RX1 nL rm) {k : Nat} {fs : List Value} {v : Value} (hd : decode cc pc = .ok (.getfield 24, 3)) (hp : pc + 3 = pc') (hk : k < N) (hc : S k = .inr (1, fs)) (hv : fs[4]? = some v) (kk : AW X G nL N pc' lo (v :: st) S a b) : AW X G nL N pc lo (.ref (ad G k) :: st) S a b := r_get h hd hp hk hc hv rfl inX1 (j := 4) (by decide) ⟨rfl, rfl, rfl⟩ lX1_24 kk
theorem lX1_27 : Cond.fieldLink RX1 27 "WindFarmDispatcher$Farm" "serviceHours" "[I" ∈ gw := gw_in (tb_1 45 (by decide +kernel)) (by decide +kernel)
theorem gX1_27 (h : OK X G N cc RX1 nL rm) {k : Nat} {fs : List Value} {v : Value} (hd : decode cc pc = .ok (.getfield 27, 3)) (hp : pc + 3 = pc') (hk : k < N) (hc : S k = .inr (1, fs)) (hv : fs[5]? = some v) (kk : AW X G nL N pc' lo (v :: st) S a b) : AW X G nL N pc lo (.ref (ad G k) :: st) S a b := r_get h hd hp hk hc hv rfl inX1 (j := 5) (by decide) ⟨rfl, rfl, rfl⟩ lX1_27 kk
theorem lX1_30 : Cond.fieldLink RX1 30 "WindFarmDispatcher$Farm" "cells" "[I" ∈ gw := gw_in (tb_1 47 (by decide +kernel)) (by decide +kernel)
theorem gX1_30 (h : OK X G N cc RX1 nL rm) {k : Nat} {fs : List Value} {v : Value} (hd : decode cc pc = .ok (.getfield 30, 3)) (hp : pc + 3 = pc') (hk : k < N) (hc : S k = .inr (1, fs)) (hv : fs[6]? = some v) (kk : AW X G nL N pc' lo (v :: st) S a b) : AW X G nL N pc lo (.ref (ad G k) :: st) S a b := r_get h hd hp hk hc hv rfl inX1 (j := 6) (by decide) ⟨rfl, rfl, rfl⟩ lX1_30 kk
theorem lX1_33 : Cond.fieldLink RX1 33 "WindFarmDispatcher$Farm" "prices" "[I" ∈ gw := gw_in (tb_1 48 (by decide +kernel)) (by decide +kernel)
theorem gX1_33 (h : OK X G N cc RX1 nL rm) {k : Nat} {fs : List Value} {v : Value} (hd : decode cc pc = .ok (.getfield 33, 3)) (hp : pc + 3 = pc') (hk : k < N) (hc : S k = .inr (1, fs)) (hv : fs[7]? = some v) (kk : AW X G nL N pc' lo (v :: st) S a b) : AW X G nL N pc lo (.ref (ad G k) :: st) S a b := r_get h hd hp hk hc hv rfl inX1 (j := 7) (by decide) ⟨rfl, rfl, rfl⟩ lX1_33 kk
theorem lX1_36 : Cond.fieldLink RX1 36 "WindFarmDispatcher$Farm" "quantities" "[I" ∈ gw := gw_in (tb_1 50 (by decide +kernel)) (by decide +kernel)
theorem gX1_36 (h : OK X G N cc RX1 nL rm) {k : Nat} {fs : List Value} {v : Value} (hd : decode cc pc = .ok (.getfield 36, 3)) (hp : pc + 3 = pc') (hk : k < N) (hc : S k = .inr (1, fs)) (hv : fs[8]? = some v) (kk : AW X G nL N pc' lo (v :: st) S a b) : AW X G nL N pc lo (.ref (ad G k) :: st) S a b := r_get h hd hp hk hc hv rfl inX1 (j := 8) (by decide) ⟨rfl, rfl, rfl⟩ lX1_36 kk
theorem lX1_39 : Cond.fieldLink RX1 39 "WindFarmDispatcher$Farm" "direction" "C" ∈ gw := gw_in (tb_1 54 (by decide +kernel)) (by decide +kernel)
theorem gX1_39 (h : OK X G N cc RX1 nL rm) {k : Nat} {fs : List Value} {v : Value} (hd : decode cc pc = .ok (.getfield 39, 3)) (hp : pc + 3 = pc') (hk : k < N) (hc : S k = .inr (1, fs)) (hv : fs[10]? = some v) (kk : AW X G nL N pc' lo (v :: st) S a b) : AW X G nL N pc lo (.ref (ad G k) :: st) S a b := r_get h hd hp hk hc hv rfl inX1 (j := 10) (by decide) ⟨rfl, rfl, rfl⟩ lX1_39 kk
theorem pX1_39 (h : OK X G N cc RX1 nL rm) {k : Nat} {fs : List Value} {x : Int32} (hd : decode cc pc = .ok (.putfield 39, 3)) (hp : pc + 3 = pc') (hk : k < N) (hc : S k = .inr (1, fs)) (hlen : 10 < fs.length) (hn : narrow .char (.int x) = .int x) (hf : fits .char (.int x) = true) (kk : AW X G nL N pc' lo st (va_up S k (.inr (1, fs.set 10 (.int x)))) a b) : AW X G nL N pc lo (.int x :: .ref (ad G k) :: st) S a b := r_put (ty := .char) h hd hp hk hc rfl inX1 tyX1_ok nmX1 (j := 10) (by decide) ⟨rfl, rfl, rfl⟩ lX1_39 rfl (by decide +kernel) hn hf hlen kk
theorem lX1_43 : Cond.fieldLink RX1 43 "WindFarmDispatcher$Farm" "gridLimit" "I" ∈ gw := gw_in (tb_1 58 (by decide +kernel)) (by decide +kernel)
theorem gX1_43 (h : OK X G N cc RX1 nL rm) {k : Nat} {fs : List Value} {v : Value} (hd : decode cc pc = .ok (.getfield 43, 3)) (hp : pc + 3 = pc') (hk : k < N) (hc : S k = .inr (1, fs)) (hv : fs[12]? = some v) (kk : AW X G nL N pc' lo (v :: st) S a b) : AW X G nL N pc lo (.ref (ad G k) :: st) S a b := r_get h hd hp hk hc hv rfl inX1 (j := 12) (by decide) ⟨rfl, rfl, rfl⟩ lX1_43 kk
theorem pX1_43 (h : OK X G N cc RX1 nL rm) {k : Nat} {fs : List Value} {x : Int32} (hd : decode cc pc = .ok (.putfield 43, 3)) (hp : pc + 3 = pc') (hk : k < N) (hc : S k = .inr (1, fs)) (hlen : 12 < fs.length) (kk : AW X G nL N pc' lo st (va_up S k (.inr (1, fs.set 12 (.int x)))) a b) : AW X G nL N pc lo (.int x :: .ref (ad G k) :: st) S a b := r_put (ty := .int) h hd hp hk hc rfl inX1 tyX1_ok nmX1 (j := 12) (by decide) ⟨rfl, rfl, rfl⟩ lX1_43 rfl (by decide +kernel) rfl rfl hlen kk
theorem lX1_51 : Cond.fieldLink RX1 51 "WindFarmDispatcher$Farm" "count" "I" ∈ gw := gw_in (tb_1 52 (by decide +kernel)) (by decide +kernel)
theorem gX1_51 (h : OK X G N cc RX1 nL rm) {k : Nat} {fs : List Value} {v : Value} (hd : decode cc pc = .ok (.getfield 51, 3)) (hp : pc + 3 = pc') (hk : k < N) (hc : S k = .inr (1, fs)) (hv : fs[9]? = some v) (kk : AW X G nL N pc' lo (v :: st) S a b) : AW X G nL N pc lo (.ref (ad G k) :: st) S a b := r_get h hd hp hk hc hv rfl inX1 (j := 9) (by decide) ⟨rfl, rfl, rfl⟩ lX1_51 kk
theorem pX1_51 (h : OK X G N cc RX1 nL rm) {k : Nat} {fs : List Value} {x : Int32} (hd : decode cc pc = .ok (.putfield 51, 3)) (hp : pc + 3 = pc') (hk : k < N) (hc : S k = .inr (1, fs)) (hlen : 9 < fs.length) (kk : AW X G nL N pc' lo st (va_up S k (.inr (1, fs.set 9 (.int x)))) a b) : AW X G nL N pc lo (.int x :: .ref (ad G k) :: st) S a b := r_put (ty := .int) h hd hp hk hc rfl inX1 tyX1_ok nmX1 (j := 9) (by decide) ⟨rfl, rfl, rfl⟩ lX1_51 rfl (by decide +kernel) rfl rfl hlen kk
theorem lX1_54 : Cond.fieldLink RX1 54 "WindFarmDispatcher$Farm" "speed" "I" ∈ gw := gw_in (tb_1 56 (by decide +kernel)) (by decide +kernel)
theorem gX1_54 (h : OK X G N cc RX1 nL rm) {k : Nat} {fs : List Value} {v : Value} (hd : decode cc pc = .ok (.getfield 54, 3)) (hp : pc + 3 = pc') (hk : k < N) (hc : S k = .inr (1, fs)) (hv : fs[11]? = some v) (kk : AW X G nL N pc' lo (v :: st) S a b) : AW X G nL N pc lo (.ref (ad G k) :: st) S a b := r_get h hd hp hk hc hv rfl inX1 (j := 11) (by decide) ⟨rfl, rfl, rfl⟩ lX1_54 kk
theorem pX1_54 (h : OK X G N cc RX1 nL rm) {k : Nat} {fs : List Value} {x : Int32} (hd : decode cc pc = .ok (.putfield 54, 3)) (hp : pc + 3 = pc') (hk : k < N) (hc : S k = .inr (1, fs)) (hlen : 11 < fs.length) (kk : AW X G nL N pc' lo st (va_up S k (.inr (1, fs.set 11 (.int x)))) a b) : AW X G nL N pc lo (.int x :: .ref (ad G k) :: st) S a b := r_put (ty := .int) h hd hp hk hc rfl inX1 tyX1_ok nmX1 (j := 11) (by decide) ⟨rfl, rfl, rfl⟩ lX1_54 rfl (by decide +kernel) rfl rfl hlen kk
theorem lX1_57 : Cond.fieldLink RX1 57 "WindFarmDispatcher$Farm" "hoursPassed" "I" ∈ gw := gw_in (tb_1 60 (by decide +kernel)) (by decide +kernel)
theorem gX1_57 (h : OK X G N cc RX1 nL rm) {k : Nat} {fs : List Value} {v : Value} (hd : decode cc pc = .ok (.getfield 57, 3)) (hp : pc + 3 = pc') (hk : k < N) (hc : S k = .inr (1, fs)) (hv : fs[13]? = some v) (kk : AW X G nL N pc' lo (v :: st) S a b) : AW X G nL N pc lo (.ref (ad G k) :: st) S a b := r_get h hd hp hk hc hv rfl inX1 (j := 13) (by decide) ⟨rfl, rfl, rfl⟩ lX1_57 kk
theorem pX1_57 (h : OK X G N cc RX1 nL rm) {k : Nat} {fs : List Value} {x : Int32} (hd : decode cc pc = .ok (.putfield 57, 3)) (hp : pc + 3 = pc') (hk : k < N) (hc : S k = .inr (1, fs)) (hlen : 13 < fs.length) (kk : AW X G nL N pc' lo st (va_up S k (.inr (1, fs.set 13 (.int x)))) a b) : AW X G nL N pc lo (.int x :: .ref (ad G k) :: st) S a b := r_put (ty := .int) h hd hp hk hc rfl inX1 tyX1_ok nmX1 (j := 13) (by decide) ⟨rfl, rfl, rfl⟩ lX1_57 rfl (by decide +kernel) rfl rfl hlen kk
theorem lX1_60 : Cond.fieldLink RX1 60 "WindFarmDispatcher$Farm" "made" "J" ∈ gw := gw_in (tb_1 62 (by decide +kernel)) (by decide +kernel)
theorem gX1_60 (h : OK X G N cc RX1 nL rm) {k : Nat} {fs : List Value} {v : Value} (hd : decode cc pc = .ok (.getfield 60, 3)) (hp : pc + 3 = pc') (hk : k < N) (hc : S k = .inr (1, fs)) (hv : fs[14]? = some v) (kk : AW X G nL N pc' lo (v :: st) S a b) : AW X G nL N pc lo (.ref (ad G k) :: st) S a b := r_get h hd hp hk hc hv rfl inX1 (j := 14) (by decide) ⟨rfl, rfl, rfl⟩ lX1_60 kk
theorem pX1_60 (h : OK X G N cc RX1 nL rm) {k : Nat} {fs : List Value} {x : Int64} (hd : decode cc pc = .ok (.putfield 60, 3)) (hp : pc + 3 = pc') (hk : k < N) (hc : S k = .inr (1, fs)) (hlen : 14 < fs.length) (kk : AW X G nL N pc' lo st (va_up S k (.inr (1, fs.set 14 (.long x)))) a b) : AW X G nL N pc lo (.long x :: .ref (ad G k) :: st) S a b := r_put (ty := .long) h hd hp hk hc rfl inX1 tyX1_ok nmX1 (j := 14) (by decide) ⟨rfl, rfl, rfl⟩ lX1_60 rfl (by decide +kernel) rfl rfl hlen kk
theorem lX1_64 : Cond.fieldLink RX1 64 "WindFarmDispatcher$Farm" "lost" "J" ∈ gw := gw_in (tb_1 64 (by decide +kernel)) (by decide +kernel)
theorem gX1_64 (h : OK X G N cc RX1 nL rm) {k : Nat} {fs : List Value} {v : Value} (hd : decode cc pc = .ok (.getfield 64, 3)) (hp : pc + 3 = pc') (hk : k < N) (hc : S k = .inr (1, fs)) (hv : fs[15]? = some v) (kk : AW X G nL N pc' lo (v :: st) S a b) : AW X G nL N pc lo (.ref (ad G k) :: st) S a b := r_get h hd hp hk hc hv rfl inX1 (j := 15) (by decide) ⟨rfl, rfl, rfl⟩ lX1_64 kk
theorem pX1_64 (h : OK X G N cc RX1 nL rm) {k : Nat} {fs : List Value} {x : Int64} (hd : decode cc pc = .ok (.putfield 64, 3)) (hp : pc + 3 = pc') (hk : k < N) (hc : S k = .inr (1, fs)) (hlen : 15 < fs.length) (kk : AW X G nL N pc' lo st (va_up S k (.inr (1, fs.set 15 (.long x)))) a b) : AW X G nL N pc lo (.long x :: .ref (ad G k) :: st) S a b := r_put (ty := .long) h hd hp hk hc rfl inX1 tyX1_ok nmX1 (j := 15) (by decide) ⟨rfl, rfl, rfl⟩ lX1_64 rfl (by decide +kernel) rfl rfl hlen kk
theorem lX1_67 : Cond.fieldLink RX1 67 "WindFarmDispatcher$Farm" "sold" "J" ∈ gw := gw_in (tb_1 66 (by decide +kernel)) (by decide +kernel)
theorem gX1_67 (h : OK X G N cc RX1 nL rm) {k : Nat} {fs : List Value} {v : Value} (hd : decode cc pc = .ok (.getfield 67, 3)) (hp : pc + 3 = pc') (hk : k < N) (hc : S k = .inr (1, fs)) (hv : fs[16]? = some v) (kk : AW X G nL N pc' lo (v :: st) S a b) : AW X G nL N pc lo (.ref (ad G k) :: st) S a b := r_get h hd hp hk hc hv rfl inX1 (j := 16) (by decide) ⟨rfl, rfl, rfl⟩ lX1_67 kk
theorem pX1_67 (h : OK X G N cc RX1 nL rm) {k : Nat} {fs : List Value} {x : Int64} (hd : decode cc pc = .ok (.putfield 67, 3)) (hp : pc + 3 = pc') (hk : k < N) (hc : S k = .inr (1, fs)) (hlen : 16 < fs.length) (kk : AW X G nL N pc' lo st (va_up S k (.inr (1, fs.set 16 (.long x)))) a b) : AW X G nL N pc lo (.long x :: .ref (ad G k) :: st) S a b := r_put (ty := .long) h hd hp hk hc rfl inX1 tyX1_ok nmX1 (j := 16) (by decide) ⟨rfl, rfl, rfl⟩ lX1_67 rfl (by decide +kernel) rfl rfl hlen kk
theorem lX1_70 : Cond.fieldLink RX1 70 "WindFarmDispatcher$Farm" "spilled" "J" ∈ gw := gw_in (tb_1 68 (by decide +kernel)) (by decide +kernel)
theorem gX1_70 (h : OK X G N cc RX1 nL rm) {k : Nat} {fs : List Value} {v : Value} (hd : decode cc pc = .ok (.getfield 70, 3)) (hp : pc + 3 = pc') (hk : k < N) (hc : S k = .inr (1, fs)) (hv : fs[17]? = some v) (kk : AW X G nL N pc' lo (v :: st) S a b) : AW X G nL N pc lo (.ref (ad G k) :: st) S a b := r_get h hd hp hk hc hv rfl inX1 (j := 17) (by decide) ⟨rfl, rfl, rfl⟩ lX1_70 kk
theorem pX1_70 (h : OK X G N cc RX1 nL rm) {k : Nat} {fs : List Value} {x : Int64} (hd : decode cc pc = .ok (.putfield 70, 3)) (hp : pc + 3 = pc') (hk : k < N) (hc : S k = .inr (1, fs)) (hlen : 17 < fs.length) (kk : AW X G nL N pc' lo st (va_up S k (.inr (1, fs.set 17 (.long x)))) a b) : AW X G nL N pc lo (.long x :: .ref (ad G k) :: st) S a b := r_put (ty := .long) h hd hp hk hc rfl inX1 tyX1_ok nmX1 (j := 17) (by decide) ⟨rfl, rfl, rfl⟩ lX1_70 rfl (by decide +kernel) rfl rfl hlen kk
theorem lX1_73 : Cond.fieldLink RX1 73 "WindFarmDispatcher$Farm" "coins" "J" ∈ gw := gw_in (tb_1 70 (by decide +kernel)) (by decide +kernel)
theorem gX1_73 (h : OK X G N cc RX1 nL rm) {k : Nat} {fs : List Value} {v : Value} (hd : decode cc pc = .ok (.getfield 73, 3)) (hp : pc + 3 = pc') (hk : k < N) (hc : S k = .inr (1, fs)) (hv : fs[18]? = some v) (kk : AW X G nL N pc' lo (v :: st) S a b) : AW X G nL N pc lo (.ref (ad G k) :: st) S a b := r_get h hd hp hk hc hv rfl inX1 (j := 18) (by decide) ⟨rfl, rfl, rfl⟩ lX1_73 kk
theorem pX1_73 (h : OK X G N cc RX1 nL rm) {k : Nat} {fs : List Value} {x : Int64} (hd : decode cc pc = .ok (.putfield 73, 3)) (hp : pc + 3 = pc') (hk : k < N) (hc : S k = .inr (1, fs)) (hlen : 18 < fs.length) (kk : AW X G nL N pc' lo st (va_up S k (.inr (1, fs.set 18 (.long x)))) a b) : AW X G nL N pc lo (.long x :: .ref (ad G k) :: st) S a b := r_put (ty := .long) h hd hp hk hc rfl inX1 tyX1_ok nmX1 (j := 18) (by decide) ⟨rfl, rfl, rfl⟩ lX1_73 rfl (by decide +kernel) rfl rfl hlen kk
theorem lX2_11 : Cond.fieldLink RX2 11 "WindFarmDispatcher$History" "farms" "[LWindFarmDispatcher$Farm;" ∈ gw := gw_in (tb_1 121 (by decide +kernel)) (by decide +kernel)
theorem gX2_11 (h : OK X G N cc RX2 nL rm) {k : Nat} {fs : List Value} {v : Value} (hd : decode cc pc = .ok (.getfield 11, 3)) (hp : pc + 3 = pc') (hk : k < N) (hc : S k = .inr (2, fs)) (hv : fs[0]? = some v) (kk : AW X G nL N pc' lo (v :: st) S a b) : AW X G nL N pc lo (.ref (ad G k) :: st) S a b := r_get h hd hp hk hc hv rfl inX2 (j := 0) (by decide) ⟨rfl, rfl, rfl⟩ lX2_11 kk
theorem lX2_18 : Cond.fieldLink RX2 18 "WindFarmDispatcher$History" "next" "I" ∈ gw := gw_in (tb_1 122 (by decide +kernel)) (by decide +kernel)
theorem gX2_18 (h : OK X G N cc RX2 nL rm) {k : Nat} {fs : List Value} {v : Value} (hd : decode cc pc = .ok (.getfield 18, 3)) (hp : pc + 3 = pc') (hk : k < N) (hc : S k = .inr (2, fs)) (hv : fs[1]? = some v) (kk : AW X G nL N pc' lo (v :: st) S a b) : AW X G nL N pc lo (.ref (ad G k) :: st) S a b := r_get h hd hp hk hc hv rfl inX2 (j := 1) (by decide) ⟨rfl, rfl, rfl⟩ lX2_18 kk
theorem pX2_18 (h : OK X G N cc RX2 nL rm) {k : Nat} {fs : List Value} {x : Int32} (hd : decode cc pc = .ok (.putfield 18, 3)) (hp : pc + 3 = pc') (hk : k < N) (hc : S k = .inr (2, fs)) (hlen : 1 < fs.length) (kk : AW X G nL N pc' lo st (va_up S k (.inr (2, fs.set 1 (.int x)))) a b) : AW X G nL N pc lo (.int x :: .ref (ad G k) :: st) S a b := r_put (ty := .int) h hd hp hk hc rfl inX2 tyX2_ok nmX2 (j := 1) (by decide) ⟨rfl, rfl, rfl⟩ lX2_18 rfl (by decide +kernel) rfl rfl hlen kk
theorem lX2_30 : Cond.fieldLink RX2 30 "WindFarmDispatcher$History" "size" "I" ∈ gw := gw_in (tb_1 123 (by decide +kernel)) (by decide +kernel)
theorem gX2_30 (h : OK X G N cc RX2 nL rm) {k : Nat} {fs : List Value} {v : Value} (hd : decode cc pc = .ok (.getfield 30, 3)) (hp : pc + 3 = pc') (hk : k < N) (hc : S k = .inr (2, fs)) (hv : fs[2]? = some v) (kk : AW X G nL N pc' lo (v :: st) S a b) : AW X G nL N pc lo (.ref (ad G k) :: st) S a b := r_get h hd hp hk hc hv rfl inX2 (j := 2) (by decide) ⟨rfl, rfl, rfl⟩ lX2_30 kk
theorem pX2_30 (h : OK X G N cc RX2 nL rm) {k : Nat} {fs : List Value} {x : Int32} (hd : decode cc pc = .ok (.putfield 30, 3)) (hp : pc + 3 = pc') (hk : k < N) (hc : S k = .inr (2, fs)) (hlen : 2 < fs.length) (kk : AW X G nL N pc' lo st (va_up S k (.inr (2, fs.set 2 (.int x)))) a b) : AW X G nL N pc lo (.int x :: .ref (ad G k) :: st) S a b := r_put (ty := .int) h hd hp hk hc rfl inX2 tyX2_ok nmX2 (j := 2) (by decide) ⟨rfl, rfl, rfl⟩ lX2_30 rfl (by decide +kernel) rfl rfl hlen kk
theorem lX3_9 : Cond.fieldLink RX3 9 "WindFarmDispatcher$Text" "signs" "[C" ∈ gw := gw_in (tb_1 144 (by decide +kernel)) (by decide +kernel)
theorem gX3_9 (h : OK X G N cc RX3 nL rm) {k : Nat} {fs : List Value} {v : Value} (hd : decode cc pc = .ok (.getfield 9, 3)) (hp : pc + 3 = pc') (hk : k < N) (hc : S k = .inr (3, fs)) (hv : fs[0]? = some v) (kk : AW X G nL N pc' lo (v :: st) S a b) : AW X G nL N pc lo (.ref (ad G k) :: st) S a b := r_get h hd hp hk hc hv rfl inX3 (j := 0) (by decide) ⟨rfl, rfl, rfl⟩ lX3_9 kk
theorem lX3_15 : Cond.fieldLink RX3 15 "WindFarmDispatcher$Text" "length" "I" ∈ gw := gw_in (tb_1 145 (by decide +kernel)) (by decide +kernel)
theorem gX3_15 (h : OK X G N cc RX3 nL rm) {k : Nat} {fs : List Value} {v : Value} (hd : decode cc pc = .ok (.getfield 15, 3)) (hp : pc + 3 = pc') (hk : k < N) (hc : S k = .inr (3, fs)) (hv : fs[1]? = some v) (kk : AW X G nL N pc' lo (v :: st) S a b) : AW X G nL N pc lo (.ref (ad G k) :: st) S a b := r_get h hd hp hk hc hv rfl inX3 (j := 1) (by decide) ⟨rfl, rfl, rfl⟩ lX3_15 kk
theorem pX3_15 (h : OK X G N cc RX3 nL rm) {k : Nat} {fs : List Value} {x : Int32} (hd : decode cc pc = .ok (.putfield 15, 3)) (hp : pc + 3 = pc') (hk : k < N) (hc : S k = .inr (3, fs)) (hlen : 1 < fs.length) (kk : AW X G nL N pc' lo st (va_up S k (.inr (3, fs.set 1 (.int x)))) a b) : AW X G nL N pc lo (.int x :: .ref (ad G k) :: st) S a b := r_put (ty := .int) h hd hp hk hc rfl inX3 tyX3_ok nmX3 (j := 1) (by decide) ⟨rfl, rfl, rfl⟩ lX3_15 rfl (by decide +kernel) rfl rfl hlen kk
theorem lX5_9 : Cond.fieldLink RX5 9 "WindFarmDispatcherModel" "all" "[I" ∈ gw := gw_in (tb_6 18 (by decide +kernel)) (by decide +kernel)
theorem gX5_9 (h : OK X G N cc RX5 nL rm) {k : Nat} {fs : List Value} {v : Value} (hd : decode cc pc = .ok (.getfield 9, 3)) (hp : pc + 3 = pc') (hk : k < N) (hc : S k = .inr (5, fs)) (hv : fs[1]? = some v) (kk : AW X G nL N pc' lo (v :: st) S a b) : AW X G nL N pc lo (.ref (ad G k) :: st) S a b := r_get h hd hp hk hc hv rfl inX5 (j := 1) (by decide) ⟨rfl, rfl, rfl⟩ lX5_9 kk
theorem lX5_13 : Cond.fieldLink RX5 13 "WindFarmDispatcherModel" "line" "[C" ∈ gw := gw_in (tb_6 25 (by decide +kernel)) (by decide +kernel)
theorem gX5_13 (h : OK X G N cc RX5 nL rm) {k : Nat} {fs : List Value} {v : Value} (hd : decode cc pc = .ok (.getfield 13, 3)) (hp : pc + 3 = pc') (hk : k < N) (hc : S k = .inr (5, fs)) (hv : fs[8]? = some v) (kk : AW X G nL N pc' lo (v :: st) S a b) : AW X G nL N pc lo (.ref (ad G k) :: st) S a b := r_get h hd hp hk hc hv rfl inX5 (j := 8) (by decide) ⟨rfl, rfl, rfl⟩ lX5_13 kk
theorem lX5_17 : Cond.fieldLink RX5 17 "WindFarmDispatcherModel" "input" "[C" ∈ gw := gw_in (tb_6 27 (by decide +kernel)) (by decide +kernel)
theorem gX5_17 (h : OK X G N cc RX5 nL rm) {k : Nat} {fs : List Value} {v : Value} (hd : decode cc pc = .ok (.getfield 17, 3)) (hp : pc + 3 = pc') (hk : k < N) (hc : S k = .inr (5, fs)) (hv : fs[10]? = some v) (kk : AW X G nL N pc' lo (v :: st) S a b) : AW X G nL N pc lo (.ref (ad G k) :: st) S a b := r_get h hd hp hk hc hv rfl inX5 (j := 10) (by decide) ⟨rfl, rfl, rfl⟩ lX5_17 kk
theorem lX5_20 : Cond.fieldLink RX5 20 "WindFarmDispatcherModel" "errorAt" "I" ∈ gw := gw_in (tb_6 31 (by decide +kernel)) (by decide +kernel)
theorem gX5_20 (h : OK X G N cc RX5 nL rm) {k : Nat} {fs : List Value} {v : Value} (hd : decode cc pc = .ok (.getfield 20, 3)) (hp : pc + 3 = pc') (hk : k < N) (hc : S k = .inr (5, fs)) (hv : fs[14]? = some v) (kk : AW X G nL N pc' lo (v :: st) S a b) : AW X G nL N pc lo (.ref (ad G k) :: st) S a b := r_get h hd hp hk hc hv rfl inX5 (j := 14) (by decide) ⟨rfl, rfl, rfl⟩ lX5_20 kk
theorem pX5_20 (h : OK X G N cc RX5 nL rm) {k : Nat} {fs : List Value} {x : Int32} (hd : decode cc pc = .ok (.putfield 20, 3)) (hp : pc + 3 = pc') (hk : k < N) (hc : S k = .inr (5, fs)) (hlen : 14 < fs.length) (kk : AW X G nL N pc' lo st (va_up S k (.inr (5, fs.set 14 (.int x)))) a b) : AW X G nL N pc lo (.int x :: .ref (ad G k) :: st) S a b := r_put (ty := .int) h hd hp hk hc rfl inX5 tyX5_ok nmX5 (j := 14) (by decide) ⟨rfl, rfl, rfl⟩ lX5_20 rfl (by decide +kernel) rfl rfl hlen kk
theorem lX5_24 : Cond.fieldLink RX5 24 "WindFarmDispatcherModel" "commands" "[I" ∈ gw := gw_in (tb_6 32 (by decide +kernel)) (by decide +kernel)
theorem gX5_24 (h : OK X G N cc RX5 nL rm) {k : Nat} {fs : List Value} {v : Value} (hd : decode cc pc = .ok (.getfield 24, 3)) (hp : pc + 3 = pc') (hk : k < N) (hc : S k = .inr (5, fs)) (hv : fs[15]? = some v) (kk : AW X G nL N pc' lo (v :: st) S a b) : AW X G nL N pc lo (.ref (ad G k) :: st) S a b := r_get h hd hp hk hc hv rfl inX5 (j := 15) (by decide) ⟨rfl, rfl, rfl⟩ lX5_24 kk
theorem lX5_27 : Cond.fieldLink RX5 27 "WindFarmDispatcherModel" "thrown" "I" ∈ gw := gw_in (tb_6 17 (by decide +kernel)) (by decide +kernel)
theorem gX5_27 (h : OK X G N cc RX5 nL rm) {k : Nat} {fs : List Value} {v : Value} (hd : decode cc pc = .ok (.getfield 27, 3)) (hp : pc + 3 = pc') (hk : k < N) (hc : S k = .inr (5, fs)) (hv : fs[0]? = some v) (kk : AW X G nL N pc' lo (v :: st) S a b) : AW X G nL N pc lo (.ref (ad G k) :: st) S a b := r_get h hd hp hk hc hv rfl inX5 (j := 0) (by decide) ⟨rfl, rfl, rfl⟩ lX5_27 kk
theorem pX5_27 (h : OK X G N cc RX5 nL rm) {k : Nat} {fs : List Value} {x : Int32} (hd : decode cc pc = .ok (.putfield 27, 3)) (hp : pc + 3 = pc') (hk : k < N) (hc : S k = .inr (5, fs)) (hlen : 0 < fs.length) (kk : AW X G nL N pc' lo st (va_up S k (.inr (5, fs.set 0 (.int x)))) a b) : AW X G nL N pc lo (.int x :: .ref (ad G k) :: st) S a b := r_put (ty := .int) h hd hp hk hc rfl inX5 tyX5_ok nmX5 (j := 0) (by decide) ⟨rfl, rfl, rfl⟩ lX5_27 rfl (by decide +kernel) rfl rfl hlen kk
theorem lX5_34 : Cond.fieldLink RX5 34 "WindFarmDispatcherModel" "changes" "I" ∈ gw := gw_in (tb_6 19 (by decide +kernel)) (by decide +kernel)
theorem gX5_34 (h : OK X G N cc RX5 nL rm) {k : Nat} {fs : List Value} {v : Value} (hd : decode cc pc = .ok (.getfield 34, 3)) (hp : pc + 3 = pc') (hk : k < N) (hc : S k = .inr (5, fs)) (hv : fs[2]? = some v) (kk : AW X G nL N pc' lo (v :: st) S a b) : AW X G nL N pc lo (.ref (ad G k) :: st) S a b := r_get h hd hp hk hc hv rfl inX5 (j := 2) (by decide) ⟨rfl, rfl, rfl⟩ lX5_34 kk
theorem pX5_34 (h : OK X G N cc RX5 nL rm) {k : Nat} {fs : List Value} {x : Int32} (hd : decode cc pc = .ok (.putfield 34, 3)) (hp : pc + 3 = pc') (hk : k < N) (hc : S k = .inr (5, fs)) (hlen : 2 < fs.length) (kk : AW X G nL N pc' lo st (va_up S k (.inr (5, fs.set 2 (.int x)))) a b) : AW X G nL N pc lo (.int x :: .ref (ad G k) :: st) S a b := r_put (ty := .int) h hd hp hk hc rfl inX5 tyX5_ok nmX5 (j := 2) (by decide) ⟨rfl, rfl, rfl⟩ lX5_34 rfl (by decide +kernel) rfl rfl hlen kk
theorem lX5_37 : Cond.fieldLink RX5 37 "WindFarmDispatcherModel" "result" "I" ∈ gw := gw_in (tb_6 21 (by decide +kernel)) (by decide +kernel)
theorem gX5_37 (h : OK X G N cc RX5 nL rm) {k : Nat} {fs : List Value} {v : Value} (hd : decode cc pc = .ok (.getfield 37, 3)) (hp : pc + 3 = pc') (hk : k < N) (hc : S k = .inr (5, fs)) (hv : fs[4]? = some v) (kk : AW X G nL N pc' lo (v :: st) S a b) : AW X G nL N pc lo (.ref (ad G k) :: st) S a b := r_get h hd hp hk hc hv rfl inX5 (j := 4) (by decide) ⟨rfl, rfl, rfl⟩ lX5_37 kk
theorem pX5_37 (h : OK X G N cc RX5 nL rm) {k : Nat} {fs : List Value} {x : Int32} (hd : decode cc pc = .ok (.putfield 37, 3)) (hp : pc + 3 = pc') (hk : k < N) (hc : S k = .inr (5, fs)) (hlen : 4 < fs.length) (kk : AW X G nL N pc' lo st (va_up S k (.inr (5, fs.set 4 (.int x)))) a b) : AW X G nL N pc lo (.int x :: .ref (ad G k) :: st) S a b := r_put (ty := .int) h hd hp hk hc rfl inX5 tyX5_ok nmX5 (j := 4) (by decide) ⟨rfl, rfl, rfl⟩ lX5_37 rfl (by decide +kernel) rfl rfl hlen kk
theorem lX5_40 : Cond.fieldLink RX5 40 "WindFarmDispatcherModel" "why" "I" ∈ gw := gw_in (tb_6 22 (by decide +kernel)) (by decide +kernel)
theorem gX5_40 (h : OK X G N cc RX5 nL rm) {k : Nat} {fs : List Value} {v : Value} (hd : decode cc pc = .ok (.getfield 40, 3)) (hp : pc + 3 = pc') (hk : k < N) (hc : S k = .inr (5, fs)) (hv : fs[5]? = some v) (kk : AW X G nL N pc' lo (v :: st) S a b) : AW X G nL N pc lo (.ref (ad G k) :: st) S a b := r_get h hd hp hk hc hv rfl inX5 (j := 5) (by decide) ⟨rfl, rfl, rfl⟩ lX5_40 kk
theorem pX5_40 (h : OK X G N cc RX5 nL rm) {k : Nat} {fs : List Value} {x : Int32} (hd : decode cc pc = .ok (.putfield 40, 3)) (hp : pc + 3 = pc') (hk : k < N) (hc : S k = .inr (5, fs)) (hlen : 5 < fs.length) (kk : AW X G nL N pc' lo st (va_up S k (.inr (5, fs.set 5 (.int x)))) a b) : AW X G nL N pc lo (.int x :: .ref (ad G k) :: st) S a b := r_put (ty := .int) h hd hp hk hc rfl inX5 tyX5_ok nmX5 (j := 5) (by decide) ⟨rfl, rfl, rfl⟩ lX5_40 rfl (by decide +kernel) rfl rfl hlen kk
theorem lX5_43 : Cond.fieldLink RX5 43 "WindFarmDispatcherModel" "detail" "I" ∈ gw := gw_in (tb_6 23 (by decide +kernel)) (by decide +kernel)
theorem gX5_43 (h : OK X G N cc RX5 nL rm) {k : Nat} {fs : List Value} {v : Value} (hd : decode cc pc = .ok (.getfield 43, 3)) (hp : pc + 3 = pc') (hk : k < N) (hc : S k = .inr (5, fs)) (hv : fs[6]? = some v) (kk : AW X G nL N pc' lo (v :: st) S a b) : AW X G nL N pc lo (.ref (ad G k) :: st) S a b := r_get h hd hp hk hc hv rfl inX5 (j := 6) (by decide) ⟨rfl, rfl, rfl⟩ lX5_43 kk
theorem pX5_43 (h : OK X G N cc RX5 nL rm) {k : Nat} {fs : List Value} {x : Int32} (hd : decode cc pc = .ok (.putfield 43, 3)) (hp : pc + 3 = pc') (hk : k < N) (hc : S k = .inr (5, fs)) (hlen : 6 < fs.length) (kk : AW X G nL N pc' lo st (va_up S k (.inr (5, fs.set 6 (.int x)))) a b) : AW X G nL N pc lo (.int x :: .ref (ad G k) :: st) S a b := r_put (ty := .int) h hd hp hk hc rfl inX5 tyX5_ok nmX5 (j := 6) (by decide) ⟨rfl, rfl, rfl⟩ lX5_43 rfl (by decide +kernel) rfl rfl hlen kk
theorem lX5_46 : Cond.fieldLink RX5 46 "WindFarmDispatcherModel" "cause" "I" ∈ gw := gw_in (tb_6 24 (by decide +kernel)) (by decide +kernel)
theorem gX5_46 (h : OK X G N cc RX5 nL rm) {k : Nat} {fs : List Value} {v : Value} (hd : decode cc pc = .ok (.getfield 46, 3)) (hp : pc + 3 = pc') (hk : k < N) (hc : S k = .inr (5, fs)) (hv : fs[7]? = some v) (kk : AW X G nL N pc' lo (v :: st) S a b) : AW X G nL N pc lo (.ref (ad G k) :: st) S a b := r_get h hd hp hk hc hv rfl inX5 (j := 7) (by decide) ⟨rfl, rfl, rfl⟩ lX5_46 kk
theorem pX5_46 (h : OK X G N cc RX5 nL rm) {k : Nat} {fs : List Value} {x : Int32} (hd : decode cc pc = .ok (.putfield 46, 3)) (hp : pc + 3 = pc') (hk : k < N) (hc : S k = .inr (5, fs)) (hlen : 7 < fs.length) (kk : AW X G nL N pc' lo st (va_up S k (.inr (5, fs.set 7 (.int x)))) a b) : AW X G nL N pc lo (.int x :: .ref (ad G k) :: st) S a b := r_put (ty := .int) h hd hp hk hc rfl inX5 tyX5_ok nmX5 (j := 7) (by decide) ⟨rfl, rfl, rfl⟩ lX5_46 rfl (by decide +kernel) rfl rfl hlen kk
theorem lX5_187 : Cond.fieldLink RX5 187 "WindFarmDispatcherModel" "lineSize" "I" ∈ gw := gw_in (tb_6 26 (by decide +kernel)) (by decide +kernel)
theorem gX5_187 (h : OK X G N cc RX5 nL rm) {k : Nat} {fs : List Value} {v : Value} (hd : decode cc pc = .ok (.getfield 187, 3)) (hp : pc + 3 = pc') (hk : k < N) (hc : S k = .inr (5, fs)) (hv : fs[9]? = some v) (kk : AW X G nL N pc' lo (v :: st) S a b) : AW X G nL N pc lo (.ref (ad G k) :: st) S a b := r_get h hd hp hk hc hv rfl inX5 (j := 9) (by decide) ⟨rfl, rfl, rfl⟩ lX5_187 kk
theorem pX5_187 (h : OK X G N cc RX5 nL rm) {k : Nat} {fs : List Value} {x : Int32} (hd : decode cc pc = .ok (.putfield 187, 3)) (hp : pc + 3 = pc') (hk : k < N) (hc : S k = .inr (5, fs)) (hlen : 9 < fs.length) (kk : AW X G nL N pc' lo st (va_up S k (.inr (5, fs.set 9 (.int x)))) a b) : AW X G nL N pc lo (.int x :: .ref (ad G k) :: st) S a b := r_put (ty := .int) h hd hp hk hc rfl inX5 tyX5_ok nmX5 (j := 9) (by decide) ⟨rfl, rfl, rfl⟩ lX5_187 rfl (by decide +kernel) rfl rfl hlen kk
theorem lX5_200 : Cond.fieldLink RX5 200 "WindFarmDispatcherModel" "typed" "I" ∈ gw := gw_in (tb_6 28 (by decide +kernel)) (by decide +kernel)
theorem gX5_200 (h : OK X G N cc RX5 nL rm) {k : Nat} {fs : List Value} {v : Value} (hd : decode cc pc = .ok (.getfield 200, 3)) (hp : pc + 3 = pc') (hk : k < N) (hc : S k = .inr (5, fs)) (hv : fs[11]? = some v) (kk : AW X G nL N pc' lo (v :: st) S a b) : AW X G nL N pc lo (.ref (ad G k) :: st) S a b := r_get h hd hp hk hc hv rfl inX5 (j := 11) (by decide) ⟨rfl, rfl, rfl⟩ lX5_200 kk
theorem pX5_200 (h : OK X G N cc RX5 nL rm) {k : Nat} {fs : List Value} {x : Int32} (hd : decode cc pc = .ok (.putfield 200, 3)) (hp : pc + 3 = pc') (hk : k < N) (hc : S k = .inr (5, fs)) (hlen : 11 < fs.length) (kk : AW X G nL N pc' lo st (va_up S k (.inr (5, fs.set 11 (.int x)))) a b) : AW X G nL N pc lo (.int x :: .ref (ad G k) :: st) S a b := r_put (ty := .int) h hd hp hk hc rfl inX5 tyX5_ok nmX5 (j := 11) (by decide) ⟨rfl, rfl, rfl⟩ lX5_200 rfl (by decide +kernel) rfl rfl hlen kk
theorem lX5_203 : Cond.fieldLink RX5 203 "WindFarmDispatcherModel" "here" "I" ∈ gw := gw_in (tb_6 29 (by decide +kernel)) (by decide +kernel)
theorem gX5_203 (h : OK X G N cc RX5 nL rm) {k : Nat} {fs : List Value} {v : Value} (hd : decode cc pc = .ok (.getfield 203, 3)) (hp : pc + 3 = pc') (hk : k < N) (hc : S k = .inr (5, fs)) (hv : fs[12]? = some v) (kk : AW X G nL N pc' lo (v :: st) S a b) : AW X G nL N pc lo (.ref (ad G k) :: st) S a b := r_get h hd hp hk hc hv rfl inX5 (j := 12) (by decide) ⟨rfl, rfl, rfl⟩ lX5_203 kk
theorem pX5_203 (h : OK X G N cc RX5 nL rm) {k : Nat} {fs : List Value} {x : Int32} (hd : decode cc pc = .ok (.putfield 203, 3)) (hp : pc + 3 = pc') (hk : k < N) (hc : S k = .inr (5, fs)) (hlen : 12 < fs.length) (kk : AW X G nL N pc' lo st (va_up S k (.inr (5, fs.set 12 (.int x)))) a b) : AW X G nL N pc lo (.int x :: .ref (ad G k) :: st) S a b := r_put (ty := .int) h hd hp hk hc rfl inX5 tyX5_ok nmX5 (j := 12) (by decide) ⟨rfl, rfl, rfl⟩ lX5_203 rfl (by decide +kernel) rfl rfl hlen kk
theorem lX5_206 : Cond.fieldLink RX5 206 "WindFarmDispatcherModel" "error" "I" ∈ gw := gw_in (tb_6 30 (by decide +kernel)) (by decide +kernel)
theorem gX5_206 (h : OK X G N cc RX5 nL rm) {k : Nat} {fs : List Value} {v : Value} (hd : decode cc pc = .ok (.getfield 206, 3)) (hp : pc + 3 = pc') (hk : k < N) (hc : S k = .inr (5, fs)) (hv : fs[13]? = some v) (kk : AW X G nL N pc' lo (v :: st) S a b) : AW X G nL N pc lo (.ref (ad G k) :: st) S a b := r_get h hd hp hk hc hv rfl inX5 (j := 13) (by decide) ⟨rfl, rfl, rfl⟩ lX5_206 kk
theorem pX5_206 (h : OK X G N cc RX5 nL rm) {k : Nat} {fs : List Value} {x : Int32} (hd : decode cc pc = .ok (.putfield 206, 3)) (hp : pc + 3 = pc') (hk : k < N) (hc : S k = .inr (5, fs)) (hlen : 13 < fs.length) (kk : AW X G nL N pc' lo st (va_up S k (.inr (5, fs.set 13 (.int x)))) a b) : AW X G nL N pc lo (.int x :: .ref (ad G k) :: st) S a b := r_put (ty := .int) h hd hp hk hc rfl inX5 tyX5_ok nmX5 (j := 13) (by decide) ⟨rfl, rfl, rfl⟩ lX5_206 rfl (by decide +kernel) rfl rfl hlen kk
theorem lX5_218 : Cond.fieldLink RX5 218 "WindFarmDispatcherModel" "commandMany" "I" ∈ gw := gw_in (tb_6 33 (by decide +kernel)) (by decide +kernel)
theorem gX5_218 (h : OK X G N cc RX5 nL rm) {k : Nat} {fs : List Value} {v : Value} (hd : decode cc pc = .ok (.getfield 218, 3)) (hp : pc + 3 = pc') (hk : k < N) (hc : S k = .inr (5, fs)) (hv : fs[16]? = some v) (kk : AW X G nL N pc' lo (v :: st) S a b) : AW X G nL N pc lo (.ref (ad G k) :: st) S a b := r_get h hd hp hk hc hv rfl inX5 (j := 16) (by decide) ⟨rfl, rfl, rfl⟩ lX5_218 kk
theorem pX5_218 (h : OK X G N cc RX5 nL rm) {k : Nat} {fs : List Value} {x : Int32} (hd : decode cc pc = .ok (.putfield 218, 3)) (hp : pc + 3 = pc') (hk : k < N) (hc : S k = .inr (5, fs)) (hlen : 16 < fs.length) (kk : AW X G nL N pc' lo st (va_up S k (.inr (5, fs.set 16 (.int x)))) a b) : AW X G nL N pc lo (.int x :: .ref (ad G k) :: st) S a b := r_put (ty := .int) h hd hp hk hc rfl inX5 tyX5_ok nmX5 (j := 16) (by decide) ⟨rfl, rfl, rfl⟩ lX5_218 rfl (by decide +kernel) rfl rfl hlen kk
theorem lX5_239 : Cond.fieldLink RX5 239 "WindFarmDispatcherModel" "isSaved" "Z" ∈ gw := gw_in (tb_6 20 (by decide +kernel)) (by decide +kernel)
theorem gX5_239 (h : OK X G N cc RX5 nL rm) {k : Nat} {fs : List Value} {v : Value} (hd : decode cc pc = .ok (.getfield 239, 3)) (hp : pc + 3 = pc') (hk : k < N) (hc : S k = .inr (5, fs)) (hv : fs[3]? = some v) (kk : AW X G nL N pc' lo (v :: st) S a b) : AW X G nL N pc lo (.ref (ad G k) :: st) S a b := r_get h hd hp hk hc hv rfl inX5 (j := 3) (by decide) ⟨rfl, rfl, rfl⟩ lX5_239 kk
theorem pX5_239 (h : OK X G N cc RX5 nL rm) {k : Nat} {fs : List Value} {x : Int32} (hd : decode cc pc = .ok (.putfield 239, 3)) (hp : pc + 3 = pc') (hk : k < N) (hc : S k = .inr (5, fs)) (hlen : 3 < fs.length) (hn : narrow .boolean (.int x) = .int x) (hf : fits .boolean (.int x) = true) (kk : AW X G nL N pc' lo st (va_up S k (.inr (5, fs.set 3 (.int x)))) a b) : AW X G nL N pc lo (.int x :: .ref (ad G k) :: st) S a b := r_put (ty := .boolean) h hd hp hk hc rfl inX5 tyX5_ok nmX5 (j := 3) (by decide) ⟨rfl, rfl, rfl⟩ lX5_239 rfl (by decide +kernel) hn hf hlen kk
end FIELDS
end
section
/-! MORE ROWS: boolean branches, switches, throws, calls by their number of arguments, min and max. -/
/-- a boolean on the stack -/
def b2i (c : Bool) : Int32 := if c then 1 else 0
theorem b2i_f : b2i false = 0 := rfl
theorem b2i_t : b2i true = 1 := rfl
theorem b2i_0 {c : Bool} : b2i c = 0 ↔ c = false := by cases c <;> decide
theorem nar_b (c : Bool) : narrow .boolean (.int (b2i c)) = .int (b2i c) := by cases c <;> rfl
theorem kI {K : RK} {S : Nat → va_E} {x y : Int32} (hk : K (.inl (some (.int y))) S) (e : x = y) : K (.inl (some (.int x))) S := by rw [e]; exact hk
theorem rrb {rm rm' : Nat × Nat × Nat × Nat} {ml a b : Nat} (e : (Nat.ble (rm'.1 + 1) rm.1 && (Nat.ble (8 + (ml + 11) + rm'.2.1) rm.2.1 && (Nat.ble (a + rm'.2.2.1) rm.2.2.1 && Nat.ble (b + rm'.2.2.2) rm.2.2.2))) = true) : RR rm rm' ml a b := by
  simp only [Bool.and_eq_true] at e
  exact ⟨Nat.le_of_ble_eq_true e.1, Nat.le_of_ble_eq_true e.2.1, Nat.le_of_ble_eq_true e.2.2.1, Nat.le_of_ble_eq_true e.2.2.2⟩
/-- where a switch goes, case by case -/
def swG (P : Nat → Prop) (x : Int) (pc : Nat) (d : Int) : List (Int × Int) → Prop
  | [] => P ((pc : Int) + d).toNat
  | (a, o) :: r => (x = a → P ((pc : Int) + o).toNat) ∧ (¬ x = a → swG P x pc d r)
theorem swG_go {P : Nat → Prop} {x : Int} {pc : Nat} {d : Int} : ∀ {ps : List (Int × Int)}, swG P x pc d ps → P ((pc : Int) + Op.lookupswitch.offset ps d x).toNat
  | [], h => h
  | (a, o) :: r, h => by
    rw [Op.lookupswitch.offset_cons]
    by_cases e : a = x
    · rw [if_pos e]; exact h.1 e.symm
    · rw [if_neg e]; exact swG_go (h.2 (fun z => e z.symm))
theorem sw_nn {pc : Nat} {x d : Int} : ∀ {ps : List (Int × Int)}, (d :: ps.map (fun q => q.2)).all (fun o => decide (0 ≤ (pc : Int) + o)) = true → 0 ≤ (pc : Int) + Op.lookupswitch.offset ps d x
  | [], h => by rw [Op.lookupswitch.offset_nil]; simpa using h
  | (a, o) :: r, h => by
    rw [Op.lookupswitch.offset_cons]
    simp only [List.map_cons, List.all_cons, Bool.and_eq_true, decide_eq_true_eq] at h
    by_cases e : a = x
    · rw [if_pos e]; exact h.2.1
    · rw [if_neg e]
      refine sw_nn ?_
      simp only [List.all_cons, Bool.and_eq_true, decide_eq_true_eq]
      exact ⟨h.1, h.2.2⟩
section MORE
variable {X : CX} {G : GX} {cc : ByteArray} {own : String} {nL N pc pc' tgt : Nat} {lo lo' : List (Nat × Value)} {st : List Value} {S : Nat → va_E} {a b : Nat} {rm : Nat × Nat × Nat × Nat} {K : RK} {ret : Option FieldType}
theorem r_if_eqb (h : OK X G N cc own nL rm) {x : Bool} {off : Int} (hd : decode cc pc = .ok (.ifCond .eq off, 3)) (ht : (pc : Int) + off = (tgt : Int)) (hp : pc + 3 = pc') (kt : x = false → AW X G nL N tgt lo st S a b) (kf : x = true → AW X G nL N pc' lo st S a b) : AW X G nL N pc lo (.int (b2i x) :: st) S a b :=
  r_if_eq h hd ht hp (fun z => kt (b2i_0.mp z)) (fun z => kf (by cases x with | false => exact absurd rfl z | true => rfl))
theorem r_if_neb (h : OK X G N cc own nL rm) {x : Bool} {off : Int} (hd : decode cc pc = .ok (.ifCond .ne off, 3)) (ht : (pc : Int) + off = (tgt : Int)) (hp : pc + 3 = pc') (kt : x = true → AW X G nL N tgt lo st S a b) (kf : x = false → AW X G nL N pc' lo st S a b) : AW X G nL N pc lo (.int (b2i x) :: st) S a b :=
  r_if_ne h hd ht hp (fun z => kt (by cases x with | false => exact absurd rfl z | true => rfl)) (fun z => kf (b2i_0.mp z))
theorem r_lsw (h : OK X G N cc own nL rm) {d : Int} {ps : Array (Int × Int)} {len : Nat} {x : Int32} (hd : decode cc pc = .ok (.lookupswitch d ps, len)) (hs : (ps.toList.zip (ps.toList.drop 1)).all (fun (a, next) => a.1 < next.1) = true) (hn : (d :: ps.toList.map (fun q => q.2)).all (fun o => decide (0 ≤ (pc : Int) + o)) = true)
    (kk : swG (fun t => AW X G nL N t lo st S a b) x.toInt pc d ps.toList) : AW X G nL N pc lo (.int x :: st) S a b :=
  r_lookup h hd hs rfl (Int.toNat_of_nonneg (sw_nn (x := x.toInt) hn)).symm (swG_go kk)
/-- a table, by the cases ps that don't go to the default -/
theorem r_tsw (h : OK X G N cc own nL rm) {d lw hi : Int} {offs : Array Int} {len : Nat} {x : Int32} (hd : decode cc pc = .ok (.tableswitch d lw hi offs, len)) (ps : List (Int × Int)) (hz : hi = lw + offs.size - 1) (hc : (List.range offs.size).all (fun j => decide (offs[j]? = some (Op.lookupswitch.offset ps d (lw + j)))) = true) (ho : ps.all (fun q => decide (lw ≤ q.1 ∧ q.1 ≤ hi)) = true) (hn : (d :: ps.map (fun q => q.2)).all (fun o => decide (0 ≤ (pc : Int) + o)) = true)
    (kk : swG (fun t => AW X G nL N t lo st S a b) x.toInt pc d ps) : AW X G nL N pc lo (.int x :: st) S a b := by
  have hg := swG_go kk
  have hnn : 0 ≤ (pc : Int) + Op.lookupswitch.offset ps d x.toInt := sw_nn (x := x.toInt) hn
  by_cases h1 : x.toInt < lw ∨ hi < x.toInt
  · have e : Op.lookupswitch.offset ps d x.toInt = d := by
      refine Op.lookupswitch.offset_none ?_
      rw [List.find?_eq_none]
      intro q hq
      have := List.all_eq_true.mp ho q hq
      simp only [decide_eq_true_eq] at this
      simp only [beq_iff_eq]
      omega
    rw [e] at hg hnn
    exact r_tableOut h hd h1 (Int.toNat_of_nonneg hnn).symm hg
  · have h2 : lw ≤ x.toInt ∧ x.toInt ≤ hi := by omega
    have hj : (x.toInt - lw).toNat < offs.size := by omega
    have e := List.all_eq_true.mp hc _ (List.mem_range.mpr hj)
    simp only [decide_eq_true_eq] at e
    have e3 : lw + ((x.toInt - lw).toNat : Int) = x.toInt := by omega
    rw [e3] at e
    exact r_tableIn h hd (by omega) (by omega) e (Int.toNat_of_nonneg hnn).symm hg
theorem r_callV0 (h : OK X G N cc own nL rm) (hm : OKm X G N K ret rm) {M : MI} {rm' : Nat × Nat × Nat × Nat} {index k ci Nf : Nat} {C : String} {Tf : u_T} {fs : List Value} (hd : decode cc pc = .ok (.invokevirtual index, 3)) (hp : pc + 3 = pc')
    (hl : Cond.methodLink own index M.1 ∈ gw) (hM : MV M 0 C) (hcl : cls[ci]? = some (C, Tf, Nf)) (hk : k < N) (hc : S k = .inr (ci, fs)) (hW : (st.map fun v => v.category).sum ≤ 8) (hr : RR rm rm' M.2.2.1 a b)
    (hcall : RetK X.2.1 G N M rm' [.ref (ad G k)] S (KC X G nL N pc' lo st (a + rm'.2.2.1) (b + rm'.2.2.2) K)) : AW X G nL N pc lo (.ref (ad G k) :: st) S a b := r_callV (As := []) h hm hd hp hl hM hcl hk hc rfl rfl hW hr hcall
theorem r_callV1 (h : OK X G N cc own nL rm) (hm : OKm X G N K ret rm) {M : MI} {rm' : Nat × Nat × Nat × Nat} {index k ci Nf : Nat} {C : String} {Tf : u_T} {fs : List Value} {v1 : Value} (hd : decode cc pc = .ok (.invokevirtual index, 3)) (hp : pc + 3 = pc')
    (hl : Cond.methodLink own index M.1 ∈ gw) (hM : MV M 1 C) (hcl : cls[ci]? = some (C, Tf, Nf)) (hk : k < N) (hc : S k = .inr (ci, fs)) (hW : (st.map fun v => v.category).sum ≤ 8) (hr : RR rm rm' M.2.2.1 a b)
    (hcall : RetK X.2.1 G N M rm' [.ref (ad G k), v1] S (KC X G nL N pc' lo st (a + rm'.2.2.1) (b + rm'.2.2.2) K)) : AW X G nL N pc lo (v1 :: .ref (ad G k) :: st) S a b := r_callV (As := [v1]) h hm hd hp hl hM hcl hk hc rfl rfl hW hr hcall
theorem r_callS1 (h : OK X G N cc own nL rm) (hm : OKm X G N K ret rm) {M : MI} {rm' : Nat × Nat × Nat × Nat} {index : Nat} {v1 : Value} (hd : decode cc pc = .ok (.invokestatic index, 3)) (hp : pc + 3 = pc') (hl : Cond.methodLink own index M.1 ∈ gw) (hM : MS M 1) (hW : (st.map fun v => v.category).sum ≤ 8) (hr : RR rm rm' M.2.2.1 a b)
    (hcall : RetK X.2.1 G N M rm' [v1] S (KC X G nL N pc' lo st (a + rm'.2.2.1) (b + rm'.2.2.2) K)) : AW X G nL N pc lo (v1 :: st) S a b := r_callS (As := [v1]) h hm hd hp hl hM rfl rfl hW hr hcall
theorem r_callSN1 (h : OK X G N cc own nL rm) (hm : OKm X G N K ret rm) {M : MI} {rm' : Nat × Nat × Nat × Nat} {index : Nat} {v1 : Value} (hd : decode cc pc = .ok (.invokestatic index, 3)) (hp : pc + 3 = pc') {host : String} (hl : Cond.methodLinkNest own index M.1 host ∈ nw) (hM : MS M 1) (hW : (st.map fun v => v.category).sum ≤ 8) (hr : RR rm rm' M.2.2.1 a b)
    (hcall : RetK X.2.1 G N M rm' [v1] S (KC X G nL N pc' lo st (a + rm'.2.2.1) (b + rm'.2.2.2) K)) : AW X G nL N pc lo (v1 :: st) S a b := r_callSN (As := [v1]) h hm hd hp hl hM rfl rfl hW hr hcall
theorem r_callV2 (h : OK X G N cc own nL rm) (hm : OKm X G N K ret rm) {M : MI} {rm' : Nat × Nat × Nat × Nat} {index k ci Nf : Nat} {C : String} {Tf : u_T} {fs : List Value} {v1 v2 : Value} (hd : decode cc pc = .ok (.invokevirtual index, 3)) (hp : pc + 3 = pc')
    (hl : Cond.methodLink own index M.1 ∈ gw) (hM : MV M 2 C) (hcl : cls[ci]? = some (C, Tf, Nf)) (hk : k < N) (hc : S k = .inr (ci, fs)) (hW : (st.map fun v => v.category).sum ≤ 8) (hr : RR rm rm' M.2.2.1 a b)
    (hcall : RetK X.2.1 G N M rm' [.ref (ad G k), v1, v2] S (KC X G nL N pc' lo st (a + rm'.2.2.1) (b + rm'.2.2.2) K)) : AW X G nL N pc lo (v2 :: v1 :: .ref (ad G k) :: st) S a b := r_callV (As := [v1, v2]) h hm hd hp hl hM hcl hk hc rfl rfl hW hr hcall
theorem r_callS2 (h : OK X G N cc own nL rm) (hm : OKm X G N K ret rm) {M : MI} {rm' : Nat × Nat × Nat × Nat} {index : Nat} {v1 v2 : Value} (hd : decode cc pc = .ok (.invokestatic index, 3)) (hp : pc + 3 = pc') (hl : Cond.methodLink own index M.1 ∈ gw) (hM : MS M 2) (hW : (st.map fun v => v.category).sum ≤ 8) (hr : RR rm rm' M.2.2.1 a b)
    (hcall : RetK X.2.1 G N M rm' [v1, v2] S (KC X G nL N pc' lo st (a + rm'.2.2.1) (b + rm'.2.2.2) K)) : AW X G nL N pc lo (v2 :: v1 :: st) S a b := r_callS (As := [v1, v2]) h hm hd hp hl hM rfl rfl hW hr hcall
theorem r_callSN2 (h : OK X G N cc own nL rm) (hm : OKm X G N K ret rm) {M : MI} {rm' : Nat × Nat × Nat × Nat} {index : Nat} {v1 v2 : Value} (hd : decode cc pc = .ok (.invokestatic index, 3)) (hp : pc + 3 = pc') {host : String} (hl : Cond.methodLinkNest own index M.1 host ∈ nw) (hM : MS M 2) (hW : (st.map fun v => v.category).sum ≤ 8) (hr : RR rm rm' M.2.2.1 a b)
    (hcall : RetK X.2.1 G N M rm' [v1, v2] S (KC X G nL N pc' lo st (a + rm'.2.2.1) (b + rm'.2.2.2) K)) : AW X G nL N pc lo (v2 :: v1 :: st) S a b := r_callSN (As := [v1, v2]) h hm hd hp hl hM rfl rfl hW hr hcall
theorem r_callV3 (h : OK X G N cc own nL rm) (hm : OKm X G N K ret rm) {M : MI} {rm' : Nat × Nat × Nat × Nat} {index k ci Nf : Nat} {C : String} {Tf : u_T} {fs : List Value} {v1 v2 v3 : Value} (hd : decode cc pc = .ok (.invokevirtual index, 3)) (hp : pc + 3 = pc')
    (hl : Cond.methodLink own index M.1 ∈ gw) (hM : MV M 3 C) (hcl : cls[ci]? = some (C, Tf, Nf)) (hk : k < N) (hc : S k = .inr (ci, fs)) (hW : (st.map fun v => v.category).sum ≤ 8) (hr : RR rm rm' M.2.2.1 a b)
    (hcall : RetK X.2.1 G N M rm' [.ref (ad G k), v1, v2, v3] S (KC X G nL N pc' lo st (a + rm'.2.2.1) (b + rm'.2.2.2) K)) : AW X G nL N pc lo (v3 :: v2 :: v1 :: .ref (ad G k) :: st) S a b := r_callV (As := [v1, v2, v3]) h hm hd hp hl hM hcl hk hc rfl rfl hW hr hcall
theorem r_callS3 (h : OK X G N cc own nL rm) (hm : OKm X G N K ret rm) {M : MI} {rm' : Nat × Nat × Nat × Nat} {index : Nat} {v1 v2 v3 : Value} (hd : decode cc pc = .ok (.invokestatic index, 3)) (hp : pc + 3 = pc') (hl : Cond.methodLink own index M.1 ∈ gw) (hM : MS M 3) (hW : (st.map fun v => v.category).sum ≤ 8) (hr : RR rm rm' M.2.2.1 a b)
    (hcall : RetK X.2.1 G N M rm' [v1, v2, v3] S (KC X G nL N pc' lo st (a + rm'.2.2.1) (b + rm'.2.2.2) K)) : AW X G nL N pc lo (v3 :: v2 :: v1 :: st) S a b := r_callS (As := [v1, v2, v3]) h hm hd hp hl hM rfl rfl hW hr hcall
theorem r_callSN3 (h : OK X G N cc own nL rm) (hm : OKm X G N K ret rm) {M : MI} {rm' : Nat × Nat × Nat × Nat} {index : Nat} {v1 v2 v3 : Value} (hd : decode cc pc = .ok (.invokestatic index, 3)) (hp : pc + 3 = pc') {host : String} (hl : Cond.methodLinkNest own index M.1 host ∈ nw) (hM : MS M 3) (hW : (st.map fun v => v.category).sum ≤ 8) (hr : RR rm rm' M.2.2.1 a b)
    (hcall : RetK X.2.1 G N M rm' [v1, v2, v3] S (KC X G nL N pc' lo st (a + rm'.2.2.1) (b + rm'.2.2.2) K)) : AW X G nL N pc lo (v3 :: v2 :: v1 :: st) S a b := r_callSN (As := [v1, v2, v3]) h hm hd hp hl hM rfl rfl hW hr hcall
theorem r_callV4 (h : OK X G N cc own nL rm) (hm : OKm X G N K ret rm) {M : MI} {rm' : Nat × Nat × Nat × Nat} {index k ci Nf : Nat} {C : String} {Tf : u_T} {fs : List Value} {v1 v2 v3 v4 : Value} (hd : decode cc pc = .ok (.invokevirtual index, 3)) (hp : pc + 3 = pc')
    (hl : Cond.methodLink own index M.1 ∈ gw) (hM : MV M 4 C) (hcl : cls[ci]? = some (C, Tf, Nf)) (hk : k < N) (hc : S k = .inr (ci, fs)) (hW : (st.map fun v => v.category).sum ≤ 8) (hr : RR rm rm' M.2.2.1 a b)
    (hcall : RetK X.2.1 G N M rm' [.ref (ad G k), v1, v2, v3, v4] S (KC X G nL N pc' lo st (a + rm'.2.2.1) (b + rm'.2.2.2) K)) : AW X G nL N pc lo (v4 :: v3 :: v2 :: v1 :: .ref (ad G k) :: st) S a b := r_callV (As := [v1, v2, v3, v4]) h hm hd hp hl hM hcl hk hc rfl rfl hW hr hcall
theorem r_callS4 (h : OK X G N cc own nL rm) (hm : OKm X G N K ret rm) {M : MI} {rm' : Nat × Nat × Nat × Nat} {index : Nat} {v1 v2 v3 v4 : Value} (hd : decode cc pc = .ok (.invokestatic index, 3)) (hp : pc + 3 = pc') (hl : Cond.methodLink own index M.1 ∈ gw) (hM : MS M 4) (hW : (st.map fun v => v.category).sum ≤ 8) (hr : RR rm rm' M.2.2.1 a b)
    (hcall : RetK X.2.1 G N M rm' [v1, v2, v3, v4] S (KC X G nL N pc' lo st (a + rm'.2.2.1) (b + rm'.2.2.2) K)) : AW X G nL N pc lo (v4 :: v3 :: v2 :: v1 :: st) S a b := r_callS (As := [v1, v2, v3, v4]) h hm hd hp hl hM rfl rfl hW hr hcall
theorem r_callSN4 (h : OK X G N cc own nL rm) (hm : OKm X G N K ret rm) {M : MI} {rm' : Nat × Nat × Nat × Nat} {index : Nat} {v1 v2 v3 v4 : Value} (hd : decode cc pc = .ok (.invokestatic index, 3)) (hp : pc + 3 = pc') {host : String} (hl : Cond.methodLinkNest own index M.1 host ∈ nw) (hM : MS M 4) (hW : (st.map fun v => v.category).sum ≤ 8) (hr : RR rm rm' M.2.2.1 a b)
    (hcall : RetK X.2.1 G N M rm' [v1, v2, v3, v4] S (KC X G nL N pc' lo st (a + rm'.2.2.1) (b + rm'.2.2.2) K)) : AW X G nL N pc lo (v4 :: v3 :: v2 :: v1 :: st) S a b := r_callSN (As := [v1, v2, v3, v4]) h hm hd hp hl hM rfl rfl hW hr hcall
theorem r_callV5 (h : OK X G N cc own nL rm) (hm : OKm X G N K ret rm) {M : MI} {rm' : Nat × Nat × Nat × Nat} {index k ci Nf : Nat} {C : String} {Tf : u_T} {fs : List Value} {v1 v2 v3 v4 v5 : Value} (hd : decode cc pc = .ok (.invokevirtual index, 3)) (hp : pc + 3 = pc')
    (hl : Cond.methodLink own index M.1 ∈ gw) (hM : MV M 5 C) (hcl : cls[ci]? = some (C, Tf, Nf)) (hk : k < N) (hc : S k = .inr (ci, fs)) (hW : (st.map fun v => v.category).sum ≤ 8) (hr : RR rm rm' M.2.2.1 a b)
    (hcall : RetK X.2.1 G N M rm' [.ref (ad G k), v1, v2, v3, v4, v5] S (KC X G nL N pc' lo st (a + rm'.2.2.1) (b + rm'.2.2.2) K)) : AW X G nL N pc lo (v5 :: v4 :: v3 :: v2 :: v1 :: .ref (ad G k) :: st) S a b := r_callV (As := [v1, v2, v3, v4, v5]) h hm hd hp hl hM hcl hk hc rfl rfl hW hr hcall
theorem r_callS5 (h : OK X G N cc own nL rm) (hm : OKm X G N K ret rm) {M : MI} {rm' : Nat × Nat × Nat × Nat} {index : Nat} {v1 v2 v3 v4 v5 : Value} (hd : decode cc pc = .ok (.invokestatic index, 3)) (hp : pc + 3 = pc') (hl : Cond.methodLink own index M.1 ∈ gw) (hM : MS M 5) (hW : (st.map fun v => v.category).sum ≤ 8) (hr : RR rm rm' M.2.2.1 a b)
    (hcall : RetK X.2.1 G N M rm' [v1, v2, v3, v4, v5] S (KC X G nL N pc' lo st (a + rm'.2.2.1) (b + rm'.2.2.2) K)) : AW X G nL N pc lo (v5 :: v4 :: v3 :: v2 :: v1 :: st) S a b := r_callS (As := [v1, v2, v3, v4, v5]) h hm hd hp hl hM rfl rfl hW hr hcall
theorem r_callSN5 (h : OK X G N cc own nL rm) (hm : OKm X G N K ret rm) {M : MI} {rm' : Nat × Nat × Nat × Nat} {index : Nat} {v1 v2 v3 v4 v5 : Value} (hd : decode cc pc = .ok (.invokestatic index, 3)) (hp : pc + 3 = pc') {host : String} (hl : Cond.methodLinkNest own index M.1 host ∈ nw) (hM : MS M 5) (hW : (st.map fun v => v.category).sum ≤ 8) (hr : RR rm rm' M.2.2.1 a b)
    (hcall : RetK X.2.1 G N M rm' [v1, v2, v3, v4, v5] S (KC X G nL N pc' lo st (a + rm'.2.2.1) (b + rm'.2.2.2) K)) : AW X G nL N pc lo (v5 :: v4 :: v3 :: v2 :: v1 :: st) S a b := r_callSN (As := [v1, v2, v3, v4, v5]) h hm hd hp hl hM rfl rfl hW hr hcall
theorem k_max : Cond.static Lib.Math.max.name ∈ gw ∧ Cond.initialized "java/lang/Math" ∈ gw ∧ Cond.code Lib.Math.max.name Lib.Math.max.code 2 (some .int) ∈ gw := ⟨gw_in (tb_3 87 (by decide +kernel)) (by decide +kernel), gw_in (tb_1 14 (by decide +kernel)) (by decide +kernel), gw_in (tb_3 88 (by decide +kernel)) (by decide +kernel)⟩
theorem r_max (h : OK X G N cc own nL rm) {index : Nat} {x y : Int32} (hd : decode cc pc = .ok (.invokestatic index, 3)) (hp : pc + 3 = pc') (hl : Cond.methodLink own index Lib.Math.max.name ∈ gw) (hr : (Nat.ble 1 rm.1 && Nat.ble ((st.map fun v => v.category).sum + 13) rm.2.1) = true ∧ (a ≤ rm.2.2.1 ∧ b ≤ rm.2.2.2)) (kk : AW X G nL N pc' lo (.int (if x < y then y else x) :: st) S a b) : AW X G nL N pc lo (.int y :: .int x :: st) S a b := by
  subst hp
  intro H locs ls hP hS hl2
  have hts := h.2.2.2.2.1
  have hb := hr.1
  simp only [Bool.and_eq_true] at hb
  exact va_mmax h.1 h.2.1 (h.2.2.1.trans hl2.1.symm) h.2.2.2.1 (hts _ hl) (hts _ k_max.1) (hts _ k_max.2.1) (hts _ k_max.2.2) (Nat.le_trans (Nat.le_of_ble_eq_true hb.1) h.2.2.2.2.2.2.2.2.2.2.2.1) (Nat.le_trans (Nat.le_of_ble_eq_true hb.2) h.2.2.2.2.2.2.2.2.2.2.2.2.1) (Nat.le_trans hr.2.1 h.2.2.2.2.2.2.2.2.2.2.2.2.2.1) (Nat.le_trans hr.2.2 h.2.2.2.2.2.2.2.2.2.2.2.2.2.2) hd (kk H locs ls hP hS hl2)
theorem k_min : Cond.static Lib.Math.min.name ∈ gw ∧ Cond.initialized "java/lang/Math" ∈ gw ∧ Cond.code Lib.Math.min.name Lib.Math.min.code 2 (some .int) ∈ gw := ⟨gw_in (tb_2 42 (by decide +kernel)) (by decide +kernel), gw_in (tb_1 14 (by decide +kernel)) (by decide +kernel), gw_in (tb_2 43 (by decide +kernel)) (by decide +kernel)⟩
theorem r_min (h : OK X G N cc own nL rm) {index : Nat} {x y : Int32} (hd : decode cc pc = .ok (.invokestatic index, 3)) (hp : pc + 3 = pc') (hl : Cond.methodLink own index Lib.Math.min.name ∈ gw) (hr : (Nat.ble 1 rm.1 && Nat.ble ((st.map fun v => v.category).sum + 13) rm.2.1) = true ∧ (a ≤ rm.2.2.1 ∧ b ≤ rm.2.2.2)) (kk : AW X G nL N pc' lo (.int (if y < x then y else x) :: st) S a b) : AW X G nL N pc lo (.int y :: .int x :: st) S a b := by
  subst hp
  intro H locs ls hP hS hl2
  have hts := h.2.2.2.2.1
  have hb := hr.1
  simp only [Bool.and_eq_true] at hb
  exact va_mmin h.1 h.2.1 (h.2.2.1.trans hl2.1.symm) h.2.2.2.1 (hts _ hl) (hts _ k_min.1) (hts _ k_min.2.1) (hts _ k_min.2.2) (Nat.le_trans (Nat.le_of_ble_eq_true hb.1) h.2.2.2.2.2.2.2.2.2.2.2.1) (Nat.le_trans (Nat.le_of_ble_eq_true hb.2) h.2.2.2.2.2.2.2.2.2.2.2.2.1) (Nat.le_trans hr.2.1 h.2.2.2.2.2.2.2.2.2.2.2.2.2.1) (Nat.le_trans hr.2.2 h.2.2.2.2.2.2.2.2.2.2.2.2.2.2) hd (kk H locs ls hP hS hl2)
/-- what a throw of an exception of the JDK's rests on -/
def TH (own : String) (ic : Nat) (E : String) (names : List String) : Prop := Bundle.fit E = true ∧ (∀ n ∈ names, Bundle.fit n = true) ∧ Cond.initialized E ∈ gw ∧ (∀ w ∈ vx_atS own ic E names, w ∈ gw ∨ w ∈ nw) ∧ (∀ w ∈ vx_atS own ic E names, vx_ot w = true) ∧ names.length ≤ 3
theorem th_words (h : OK X G N cc own nL rm) {ic : Nat} {E : String} {names : List String} (ht : TH own ic E names) : ∀ w ∈ vx_atS own ic E names, w.before X.2.2.2.2.2.2.1 X.2.2.2.2.1 = true := by
  intro w hw
  rcases ht.2.2.2.1 w hw with g | g
  · exact h.2.2.2.2.1 w g
  · have h2 := (List.mem_filter.mp g).2
    have h1 := h.2.2.2.2.2.2.2.2.2.1.2.2.2.2.2.2 w g
    cases w with
    | methodLinkNest _ _ _ _ => exact va_Nw.use rfl h1
    | declares _ => exact va_Nw.use rfl h1
    | castable _ _ => exact va_Nw.use rfl h1
    | _ => cases h2
theorem rrt {a b mc ms fr lc : Nat} {st : List Value} (e : (Nat.ble 7 fr && (Nat.ble ((st.map fun v => v.category).sum + 95) lc && (Nat.ble (a + 1) mc && Nat.ble (b + 6) ms))) = true) : 7 ≤ fr ∧ (st.map fun v => v.category).sum + 95 ≤ lc ∧ a + 1 ≤ mc ∧ b + 6 ≤ ms := by
  simp only [Bool.and_eq_true] at e
  exact ⟨Nat.le_of_ble_eq_true e.1, Nat.le_of_ble_eq_true e.2.1, Nat.le_of_ble_eq_true e.2.2.1, Nat.le_of_ble_eq_true e.2.2.2⟩
theorem r_throw (h : OK X G N cc own nL rm) (hm : OKm X G N K ret rm) {ik is ic i pc3 pc4 pc6 pc9 : Nat} {E text : String} {names : List String} (ht : TH own ic E names) (hk : Cond.classLink own ik E ∈ gw) (hs : strs[i]? = some (own, is, text)) (d0 : decode cc pc = .ok (.new ik, 3)) (d3 : decode cc pc3 = .ok (.dup, 1)) (d4 : decode cc pc4 = .ok (.ldc is, 2)) (d6 : decode cc pc6 = .ok (.invokespecial ic, 3)) (d9 : decode cc pc9 = .ok (.athrow, 1)) (hr : 7 ≤ rm.1 ∧ (st.map fun v => v.category).sum + 95 ≤ rm.2.1 ∧ a + 1 ≤ rm.2.2.1 ∧ b + 6 ≤ rm.2.2.2) (hpc : pc3 = pc + 3 ∧ pc4 = pc + 4 ∧ pc6 = pc + 6 ∧ pc9 = pc + 9) (hK : K (.inr E) S) : AW X G nL N pc lo st S a b := by
  obtain ⟨rfl, rfl, rfl, rfl⟩ := hpc
  intro H locs ls hP hS hl2
  have hts := h.2.2.2.2.1
  have hF := h.2.2.2.2.2.2.2.2.2.1
  obtain ⟨g1, g2, g3, g4⟩ := h.2.2.2.2.2.2.2.2.2.2.2
  unfold xW
  rw [hm.1]
  refine vx_throwS (A := AA G) h.1 h.2.1 h.2.2.2.2.2.2.2.2.1 h.2.2.2.1 ht.1 ht.2.1 (hts _ hk) (hts _ ht.2.2.1) (hF.2.2.1 i _ hs) (th_words h ht) ?_ hF.1 hF.2.1 hS (hl2.1.trans h.2.2.1.symm) d0 d3 d4 d6 d9 (fun x hx => (hm.2.2 x hx).elim) (by have := ht.2.2.2.2.2; omega) (by have := ht.2.2.2.2.2; omega) (by omega) (by omega) h.2.2.2.2.2.2.2.1 ?_ hS.2.2 hr.2.2.1 hr.2.2.2
  · intro w hw
    rcases List.mem_cons.mp hw with rfl | hw
    · rfl
    · rcases List.mem_cons.mp hw with rfl | hw
      · rfl
      · exact ht.2.2.2.2.1 w hw
  · intro t ht1 hz hq
    refine ⟨S, fun k q hq2 => (hP k q hq2).kept (hq _ (hP k q hq2).lt), hK, Nat.le_trans hS.1 hz, fun q h1 h2 => ?_⟩
    rw [hq q (Nat.lt_of_lt_of_le h1 hS.1)]
    exact hS.2.1 q h1 h2
theorem r_throwW (h : OK X G N cc own nL rm) (hm : OKm X G N K ret rm) {ik is ic i pc3 pc4 pc6 pc9 : Nat} {E text : String} {names : List String} (ht : TH own ic E names) (hk : Cond.classLink own ik E ∈ gw) (hs : strs[i]? = some (own, is, text)) (d0 : decode cc pc = .ok (.new ik, 3)) (d3 : decode cc pc3 = .ok (.dup, 1)) (d4 : decode cc pc4 = .ok (.ldc_w is, 3)) (d6 : decode cc pc6 = .ok (.invokespecial ic, 3)) (d9 : decode cc pc9 = .ok (.athrow, 1)) (hr : 7 ≤ rm.1 ∧ (st.map fun v => v.category).sum + 95 ≤ rm.2.1 ∧ a + 1 ≤ rm.2.2.1 ∧ b + 6 ≤ rm.2.2.2) (hpc : pc3 = pc + 3 ∧ pc4 = pc + 4 ∧ pc6 = pc + 7 ∧ pc9 = pc + 10) (hK : K (.inr E) S) : AW X G nL N pc lo st S a b := by
  obtain ⟨rfl, rfl, rfl, rfl⟩ := hpc
  intro H locs ls hP hS hl2
  have hts := h.2.2.2.2.1
  have hF := h.2.2.2.2.2.2.2.2.2.1
  obtain ⟨g1, g2, g3, g4⟩ := h.2.2.2.2.2.2.2.2.2.2.2
  unfold xW
  rw [hm.1]
  refine vx_throwSW (A := AA G) h.1 h.2.1 h.2.2.2.2.2.2.2.2.1 h.2.2.2.1 ht.1 ht.2.1 (hts _ hk) (hts _ ht.2.2.1) (hF.2.2.1 i _ hs) (th_words h ht) ?_ hF.1 hF.2.1 hS (hl2.1.trans h.2.2.1.symm) d0 d3 d4 d6 d9 (fun x hx => (hm.2.2 x hx).elim) (by have := ht.2.2.2.2.2; omega) (by have := ht.2.2.2.2.2; omega) (by omega) (by omega) h.2.2.2.2.2.2.2.1 ?_ hS.2.2 hr.2.2.1 hr.2.2.2
  · intro w hw
    rcases List.mem_cons.mp hw with rfl | hw
    · rfl
    · rcases List.mem_cons.mp hw with rfl | hw
      · rfl
      · exact ht.2.2.2.2.1 w hw
  · intro t ht1 hz hq
    refine ⟨S, fun k q hq2 => (hP k q hq2).kept (hq _ (hP k q hq2).lt), hK, Nat.le_trans hS.1 hz, fun q h1 h2 => ?_⟩
    rw [hq q (Nat.lt_of_lt_of_le h1 hS.1)]
    exact hS.2.1 q h1 h2
end MORE
end
section
/-! the throws of the claim: their words -/
theorem tX4_83 : TH RX4 83 "java/lang/IndexOutOfBoundsException" ["java/lang/RuntimeException", "java/lang/Exception"] := ⟨by decide +kernel, by decide +kernel, gw_in (tb_1 10 (by decide +kernel)) (by decide +kernel), by decide +kernel, by decide +kernel, by decide +kernel⟩
theorem tX4_171 : TH RX4 171 "java/lang/IllegalArgumentException" ["java/lang/RuntimeException", "java/lang/Exception"] := ⟨by decide +kernel, by decide +kernel, gw_in (tb_1 13 (by decide +kernel)) (by decide +kernel), by decide +kernel, by decide +kernel, by decide +kernel⟩
theorem tX4_264 : TH RX4 264 "java/lang/ArithmeticException" ["java/lang/RuntimeException", "java/lang/Exception"] := ⟨by decide +kernel, by decide +kernel, gw_in (tb_1 20 (by decide +kernel)) (by decide +kernel), by decide +kernel, by decide +kernel, by decide +kernel⟩
theorem tX4_297 : TH RX4 297 "java/lang/IllegalStateException" ["java/lang/RuntimeException", "java/lang/Exception"] := ⟨by decide +kernel, by decide +kernel, gw_in (tb_1 21 (by decide +kernel)) (by decide +kernel), by decide +kernel, by decide +kernel, by decide +kernel⟩
theorem tX4_381 : TH RX4 381 "java/lang/UnsupportedOperationException" ["java/lang/RuntimeException", "java/lang/Exception"] := ⟨by decide +kernel, by decide +kernel, gw_in (tb_1 15 (by decide +kernel)) (by decide +kernel), by decide +kernel, by decide +kernel, by decide +kernel⟩
end
section
theorem dX0_init_0 : decode cX0_init 0 = .ok (.aload_n 0, 1) := by decide +kernel
theorem dX0_init_1 : decode cX0_init 1 = .ok (.invokespecial 3, 3) := by decide +kernel
theorem dX0_init_4 : decode cX0_init 4 = .ok (.aload_n 0, 1) := by decide +kernel
theorem dX0_init_5 : decode cX0_init 5 = .ok (.new 9, 3) := by decide +kernel
theorem dX0_init_8 : decode cX0_init 8 = .ok (.dup, 1) := by decide +kernel
theorem dX0_init_9 : decode cX0_init 9 = .ok (.invokespecial 11, 3) := by decide +kernel
theorem dX0_init_12 : decode cX0_init 12 = .ok (.putfield 12, 3) := by decide +kernel
theorem dX0_init_15 : decode cX0_init 15 = .ok (.aload_n 0, 1) := by decide +kernel
theorem dX0_init_16 : decode cX0_init 16 = .ok (.iconst 3, 1) := by decide +kernel
theorem dX0_init_17 : decode cX0_init 17 = .ok (.newarray .int, 2) := by decide +kernel
theorem dX0_init_19 : decode cX0_init 19 = .ok (.putfield 18, 3) := by decide +kernel
theorem dX0_init_22 : decode cX0_init 22 = .ok (.return_, 1) := by decide +kernel
theorem dX0_restart_0 : decode cX0_restart 0 = .ok (.aload_n 0, 1) := by decide +kernel
theorem dX0_restart_1 : decode cX0_restart 1 = .ok (.iconst 0, 1) := by decide +kernel
theorem dX0_restart_2 : decode cX0_restart 2 = .ok (.putfield 22, 3) := by decide +kernel
theorem dX0_restart_5 : decode cX0_restart 5 = .ok (.return_, 1) := by decide +kernel
theorem dX0_argument_0 : decode cX0_argument 0 = .ok (.iload_n 1, 1) := by decide +kernel
theorem dX0_argument_1 : decode cX0_argument 1 = .ok (.aload_n 0, 1) := by decide +kernel
theorem dX0_argument_2 : decode cX0_argument 2 = .ok (.getfield 26, 3) := by decide +kernel
theorem dX0_argument_5 : decode cX0_argument 5 = .ok (.if_icmp .ge 14, 3) := by decide +kernel
theorem dX0_argument_8 : decode cX0_argument 8 = .ok (.aload_n 0, 1) := by decide +kernel
theorem dX0_argument_9 : decode cX0_argument 9 = .ok (.getfield 18, 3) := by decide +kernel
theorem dX0_argument_12 : decode cX0_argument 12 = .ok (.iload_n 1, 1) := by decide +kernel
theorem dX0_argument_13 : decode cX0_argument 13 = .ok (.invokestatic 29, 3) := by decide +kernel
theorem dX0_argument_16 : decode cX0_argument 16 = .ok (.goto 4, 3) := by decide +kernel
theorem dX0_argument_19 : decode cX0_argument 19 = .ok (.iconst 0, 1) := by decide +kernel
theorem dX0_argument_20 : decode cX0_argument 20 = .ok (.ireturn, 1) := by decide +kernel
theorem dX0_countCommands_0 : decode cX0_countCommands 0 = .ok (.aload_n 0, 1) := by decide +kernel
theorem dX0_countCommands_1 : decode cX0_countCommands 1 = .ok (.invokevirtual 33, 3) := by decide +kernel
theorem dX0_countCommands_4 : decode cX0_countCommands 4 = .ok (.iconst 1, 1) := by decide +kernel
theorem dX0_countCommands_5 : decode cX0_countCommands 5 = .ok (.istore_n 1, 1) := by decide +kernel
theorem dX0_countCommands_6 : decode cX0_countCommands 6 = .ok (.iload_n 1, 1) := by decide +kernel
theorem dX0_countCommands_7 : decode cX0_countCommands 7 = .ok (.bipush 60, 2) := by decide +kernel
theorem dX0_countCommands_9 : decode cX0_countCommands 9 = .ok (.if_icmp .gt 34, 3) := by decide +kernel
theorem dX0_countCommands_12 : decode cX0_countCommands 12 = .ok (.aload_n 0, 1) := by decide +kernel
theorem dX0_countCommands_13 : decode cX0_countCommands 13 = .ok (.invokevirtual 36, 3) := by decide +kernel
theorem dX0_countCommands_16 : decode cX0_countCommands 16 = .ok (.ifCond .ne 5, 3) := by decide +kernel
theorem dX0_countCommands_19 : decode cX0_countCommands 19 = .ok (.iconst 0, 1) := by decide +kernel
theorem dX0_countCommands_20 : decode cX0_countCommands 20 = .ok (.ireturn, 1) := by decide +kernel
theorem dX0_countCommands_21 : decode cX0_countCommands 21 = .ok (.aload_n 0, 1) := by decide +kernel
theorem dX0_countCommands_22 : decode cX0_countCommands 22 = .ok (.getfield 22, 3) := by decide +kernel
theorem dX0_countCommands_25 : decode cX0_countCommands 25 = .ok (.aload_n 0, 1) := by decide +kernel
theorem dX0_countCommands_26 : decode cX0_countCommands 26 = .ok (.getfield 12, 3) := by decide +kernel
theorem dX0_countCommands_29 : decode cX0_countCommands 29 = .ok (.getfield 40, 3) := by decide +kernel
theorem dX0_countCommands_32 : decode cX0_countCommands 32 = .ok (.if_icmp .lt 5, 3) := by decide +kernel
theorem dX0_countCommands_35 : decode cX0_countCommands 35 = .ok (.iload_n 1, 1) := by decide +kernel
theorem dX0_countCommands_36 : decode cX0_countCommands 36 = .ok (.ireturn, 1) := by decide +kernel
theorem dX0_countCommands_37 : decode cX0_countCommands 37 = .ok (.iinc 1 1, 3) := by decide +kernel
theorem dX0_countCommands_40 : decode cX0_countCommands 40 = .ok (.goto (-34), 3) := by decide +kernel
theorem dX0_countCommands_43 : decode cX0_countCommands 43 = .ok (.iconst 0, 1) := by decide +kernel
theorem dX0_countCommands_44 : decode cX0_countCommands 44 = .ok (.ireturn, 1) := by decide +kernel
theorem dX0_readNext_0 : decode cX0_readNext 0 = .ok (.aload_n 0, 1) := by decide +kernel
theorem dX0_readNext_1 : decode cX0_readNext 1 = .ok (.getfield 22, 3) := by decide +kernel
theorem dX0_readNext_4 : decode cX0_readNext 4 = .ok (.ifCond .le 14, 3) := by decide +kernel
theorem dX0_readNext_7 : decode cX0_readNext 7 = .ok (.aload_n 0, 1) := by decide +kernel
theorem dX0_readNext_8 : decode cX0_readNext 8 = .ok (.bipush 59, 2) := by decide +kernel
theorem dX0_readNext_10 : decode cX0_readNext 10 = .ok (.invokevirtual 43, 3) := by decide +kernel
theorem dX0_readNext_13 : decode cX0_readNext 13 = .ok (.ifCond .ne 5, 3) := by decide +kernel
theorem dX0_readNext_16 : decode cX0_readNext 16 = .ok (.iconst 0, 1) := by decide +kernel
theorem dX0_readNext_17 : decode cX0_readNext 17 = .ok (.ireturn, 1) := by decide +kernel
theorem dX0_readNext_18 : decode cX0_readNext 18 = .ok (.aload_n 0, 1) := by decide +kernel
theorem dX0_readNext_19 : decode cX0_readNext 19 = .ok (.getfield 12, 3) := by decide +kernel
theorem dX0_readNext_22 : decode cX0_readNext 22 = .ok (.aload_n 0, 1) := by decide +kernel
theorem dX0_readNext_23 : decode cX0_readNext 23 = .ok (.getfield 22, 3) := by decide +kernel
theorem dX0_readNext_26 : decode cX0_readNext 26 = .ok (.invokevirtual 47, 3) := by decide +kernel
theorem dX0_readNext_29 : decode cX0_readNext 29 = .ok (.invokestatic 51, 3) := by decide +kernel
theorem dX0_readNext_32 : decode cX0_readNext 32 = .ok (.astore_n 1, 1) := by decide +kernel
theorem dX0_readNext_33 : decode cX0_readNext 33 = .ok (.aload_n 1, 1) := by decide +kernel
theorem dX0_readNext_34 : decode cX0_readNext 34 = .ok (.ifnonnull 5, 3) := by decide +kernel
theorem dX0_readNext_37 : decode cX0_readNext 37 = .ok (.iconst 0, 1) := by decide +kernel
theorem dX0_readNext_38 : decode cX0_readNext 38 = .ok (.ireturn, 1) := by decide +kernel
theorem dX0_readNext_39 : decode cX0_readNext 39 = .ok (.aload_n 0, 1) := by decide +kernel
theorem dX0_readNext_40 : decode cX0_readNext 40 = .ok (.aload_n 0, 1) := by decide +kernel
theorem dX0_readNext_41 : decode cX0_readNext 41 = .ok (.getfield 12, 3) := by decide +kernel
theorem dX0_readNext_44 : decode cX0_readNext 44 = .ok (.aload_n 0, 1) := by decide +kernel
theorem dX0_readNext_45 : decode cX0_readNext 45 = .ok (.getfield 22, 3) := by decide +kernel
theorem dX0_readNext_48 : decode cX0_readNext 48 = .ok (.invokevirtual 47, 3) := by decide +kernel
theorem dX0_readNext_51 : decode cX0_readNext 51 = .ok (.putfield 55, 3) := by decide +kernel
theorem dX0_readNext_54 : decode cX0_readNext 54 = .ok (.aload_n 0, 1) := by decide +kernel
theorem dX0_readNext_55 : decode cX0_readNext 55 = .ok (.dup, 1) := by decide +kernel
theorem dX0_readNext_56 : decode cX0_readNext 56 = .ok (.getfield 22, 3) := by decide +kernel
theorem dX0_readNext_59 : decode cX0_readNext 59 = .ok (.iconst 1, 1) := by decide +kernel
theorem dX0_readNext_60 : decode cX0_readNext 60 = .ok (.iadd, 1) := by decide +kernel
theorem dX0_readNext_61 : decode cX0_readNext 61 = .ok (.putfield 22, 3) := by decide +kernel
theorem dX0_readNext_64 : decode cX0_readNext 64 = .ok (.aload_n 0, 1) := by decide +kernel
theorem dX0_readNext_65 : decode cX0_readNext 65 = .ok (.iconst 0, 1) := by decide +kernel
theorem dX0_readNext_66 : decode cX0_readNext 66 = .ok (.putfield 26, 3) := by decide +kernel
theorem dX0_readNext_69 : decode cX0_readNext 69 = .ok (.iconst 0, 1) := by decide +kernel
theorem dX0_readNext_70 : decode cX0_readNext 70 = .ok (.istore_n 2, 1) := by decide +kernel
theorem dX0_readNext_71 : decode cX0_readNext 71 = .ok (.iload_n 2, 1) := by decide +kernel
theorem dX0_readNext_72 : decode cX0_readNext 72 = .ok (.aload_n 1, 1) := by decide +kernel
theorem dX0_readNext_73 : decode cX0_readNext 73 = .ok (.invokevirtual 59, 3) := by decide +kernel
theorem dX0_readNext_76 : decode cX0_readNext 76 = .ok (.if_icmp .ge 23, 3) := by decide +kernel
theorem dX0_readNext_79 : decode cX0_readNext 79 = .ok (.aload_n 0, 1) := by decide +kernel
theorem dX0_readNext_80 : decode cX0_readNext 80 = .ok (.aload_n 1, 1) := by decide +kernel
theorem dX0_readNext_81 : decode cX0_readNext 81 = .ok (.iload_n 2, 1) := by decide +kernel
theorem dX0_readNext_82 : decode cX0_readNext 82 = .ok (.invokevirtual 64, 3) := by decide +kernel
theorem dX0_readNext_85 : decode cX0_readNext 85 = .ok (.invokevirtual 67, 3) := by decide +kernel
theorem dX0_readNext_88 : decode cX0_readNext 88 = .ok (.ifCond .ne 5, 3) := by decide +kernel
theorem dX0_readNext_91 : decode cX0_readNext 91 = .ok (.iconst 0, 1) := by decide +kernel
theorem dX0_readNext_92 : decode cX0_readNext 92 = .ok (.ireturn, 1) := by decide +kernel
theorem dX0_readNext_93 : decode cX0_readNext 93 = .ok (.iinc 2 1, 3) := by decide +kernel
theorem dX0_readNext_96 : decode cX0_readNext 96 = .ok (.goto (-25), 3) := by decide +kernel
theorem dX0_readNext_99 : decode cX0_readNext 99 = .ok (.iconst 1, 1) := by decide +kernel
theorem dX0_readNext_100 : decode cX0_readNext 100 = .ok (.ireturn, 1) := by decide +kernel
theorem dX0_partsOf_0 : decode cX0_partsOf 0 = .ok (.iload_n 0, 1) := by decide +kernel
theorem dX0_partsOf_1 : decode cX0_partsOf 1 = .ok (.tableswitch 125 97 119 #[107, 119, 113, 122, 125, 110, 110, 125, 125, 125, 125, 125, 125, 125, 125, 125, 110, 110, 113, 110, 110, 122, 116], 107) := by decide +kernel
theorem dX0_partsOf_108 : decode cX0_partsOf 108 = .ok (.ldc 70, 2) := by decide +kernel
theorem dX0_partsOf_110 : decode cX0_partsOf 110 = .ok (.areturn, 1) := by decide +kernel
theorem dX0_partsOf_111 : decode cX0_partsOf 111 = .ok (.ldc 72, 2) := by decide +kernel
theorem dX0_partsOf_113 : decode cX0_partsOf 113 = .ok (.areturn, 1) := by decide +kernel
theorem dX0_partsOf_114 : decode cX0_partsOf 114 = .ok (.ldc 74, 2) := by decide +kernel
theorem dX0_partsOf_116 : decode cX0_partsOf 116 = .ok (.areturn, 1) := by decide +kernel
theorem dX0_partsOf_117 : decode cX0_partsOf 117 = .ok (.ldc 76, 2) := by decide +kernel
theorem dX0_partsOf_119 : decode cX0_partsOf 119 = .ok (.areturn, 1) := by decide +kernel
theorem dX0_partsOf_120 : decode cX0_partsOf 120 = .ok (.ldc 78, 2) := by decide +kernel
theorem dX0_partsOf_122 : decode cX0_partsOf 122 = .ok (.areturn, 1) := by decide +kernel
theorem dX0_partsOf_123 : decode cX0_partsOf 123 = .ok (.ldc 80, 2) := by decide +kernel
theorem dX0_partsOf_125 : decode cX0_partsOf 125 = .ok (.areturn, 1) := by decide +kernel
theorem dX0_partsOf_126 : decode cX0_partsOf 126 = .ok (.aconst_null, 1) := by decide +kernel
theorem dX0_partsOf_127 : decode cX0_partsOf 127 = .ok (.areturn, 1) := by decide +kernel
theorem dX0_readPart_0 : decode cX0_readPart 0 = .ok (.iload_n 1, 1) := by decide +kernel
theorem dX0_readPart_1 : decode cX0_readPart 1 = .ok (.lookupswitch 52 #[(49, 35), (110, 41), (119, 47)], 35) := by decide +kernel
theorem dX0_readPart_36 : decode cX0_readPart 36 = .ok (.aload_n 0, 1) := by decide +kernel
theorem dX0_readPart_37 : decode cX0_readPart 37 = .ok (.iconst 1, 1) := by decide +kernel
theorem dX0_readPart_38 : decode cX0_readPart 38 = .ok (.invokevirtual 82, 3) := by decide +kernel
theorem dX0_readPart_41 : decode cX0_readPart 41 = .ok (.ireturn, 1) := by decide +kernel
theorem dX0_readPart_42 : decode cX0_readPart 42 = .ok (.aload_n 0, 1) := by decide +kernel
theorem dX0_readPart_43 : decode cX0_readPart 43 = .ok (.iconst 3, 1) := by decide +kernel
theorem dX0_readPart_44 : decode cX0_readPart 44 = .ok (.invokevirtual 82, 3) := by decide +kernel
theorem dX0_readPart_47 : decode cX0_readPart 47 = .ok (.ireturn, 1) := by decide +kernel
theorem dX0_readPart_48 : decode cX0_readPart 48 = .ok (.aload_n 0, 1) := by decide +kernel
theorem dX0_readPart_49 : decode cX0_readPart 49 = .ok (.invokevirtual 86, 3) := by decide +kernel
theorem dX0_readPart_52 : decode cX0_readPart 52 = .ok (.ireturn, 1) := by decide +kernel
theorem dX0_readPart_53 : decode cX0_readPart 53 = .ok (.aload_n 0, 1) := by decide +kernel
theorem dX0_readPart_54 : decode cX0_readPart 54 = .ok (.iload_n 1, 1) := by decide +kernel
theorem dX0_readPart_55 : decode cX0_readPart 55 = .ok (.invokevirtual 43, 3) := by decide +kernel
theorem dX0_readPart_58 : decode cX0_readPart 58 = .ok (.ireturn, 1) := by decide +kernel
theorem dX0_readDigits_0 : decode cX0_readDigits 0 = .ok (.iconst 0, 1) := by decide +kernel
theorem dX0_readDigits_1 : decode cX0_readDigits 1 = .ok (.istore_n 2, 1) := by decide +kernel
theorem dX0_readDigits_2 : decode cX0_readDigits 2 = .ok (.iconst 0, 1) := by decide +kernel
theorem dX0_readDigits_3 : decode cX0_readDigits 3 = .ok (.istore_n 3, 1) := by decide +kernel
theorem dX0_readDigits_4 : decode cX0_readDigits 4 = .ok (.iload_n 3, 1) := by decide +kernel
theorem dX0_readDigits_5 : decode cX0_readDigits 5 = .ok (.iload_n 1, 1) := by decide +kernel
theorem dX0_readDigits_6 : decode cX0_readDigits 6 = .ok (.if_icmp .ge 60, 3) := by decide +kernel
theorem dX0_readDigits_9 : decode cX0_readDigits 9 = .ok (.aload_n 0, 1) := by decide +kernel
theorem dX0_readDigits_10 : decode cX0_readDigits 10 = .ok (.getfield 12, 3) := by decide +kernel
theorem dX0_readDigits_13 : decode cX0_readDigits 13 = .ok (.aload_n 0, 1) := by decide +kernel
theorem dX0_readDigits_14 : decode cX0_readDigits 14 = .ok (.getfield 22, 3) := by decide +kernel
theorem dX0_readDigits_17 : decode cX0_readDigits 17 = .ok (.invokevirtual 47, 3) := by decide +kernel
theorem dX0_readDigits_20 : decode cX0_readDigits 20 = .ok (.bipush 48, 2) := by decide +kernel
theorem dX0_readDigits_22 : decode cX0_readDigits 22 = .ok (.bipush 57, 2) := by decide +kernel
theorem dX0_readDigits_24 : decode cX0_readDigits 24 = .ok (.invokestatic 89, 3) := by decide +kernel
theorem dX0_readDigits_27 : decode cX0_readDigits 27 = .ok (.ifCond .eq 39, 3) := by decide +kernel
theorem dX0_readDigits_30 : decode cX0_readDigits 30 = .ok (.iload_n 2, 1) := by decide +kernel
theorem dX0_readDigits_31 : decode cX0_readDigits 31 = .ok (.bipush 10, 2) := by decide +kernel
theorem dX0_readDigits_33 : decode cX0_readDigits 33 = .ok (.imul, 1) := by decide +kernel
theorem dX0_readDigits_34 : decode cX0_readDigits 34 = .ok (.aload_n 0, 1) := by decide +kernel
theorem dX0_readDigits_35 : decode cX0_readDigits 35 = .ok (.getfield 12, 3) := by decide +kernel
theorem dX0_readDigits_38 : decode cX0_readDigits 38 = .ok (.aload_n 0, 1) := by decide +kernel
theorem dX0_readDigits_39 : decode cX0_readDigits 39 = .ok (.getfield 22, 3) := by decide +kernel
theorem dX0_readDigits_42 : decode cX0_readDigits 42 = .ok (.invokevirtual 47, 3) := by decide +kernel
theorem dX0_readDigits_45 : decode cX0_readDigits 45 = .ok (.iadd, 1) := by decide +kernel
theorem dX0_readDigits_46 : decode cX0_readDigits 46 = .ok (.bipush 48, 2) := by decide +kernel
theorem dX0_readDigits_48 : decode cX0_readDigits 48 = .ok (.isub, 1) := by decide +kernel
theorem dX0_readDigits_49 : decode cX0_readDigits 49 = .ok (.istore_n 2, 1) := by decide +kernel
theorem dX0_readDigits_50 : decode cX0_readDigits 50 = .ok (.aload_n 0, 1) := by decide +kernel
theorem dX0_readDigits_51 : decode cX0_readDigits 51 = .ok (.dup, 1) := by decide +kernel
theorem dX0_readDigits_52 : decode cX0_readDigits 52 = .ok (.getfield 22, 3) := by decide +kernel
theorem dX0_readDigits_55 : decode cX0_readDigits 55 = .ok (.iconst 1, 1) := by decide +kernel
theorem dX0_readDigits_56 : decode cX0_readDigits 56 = .ok (.iadd, 1) := by decide +kernel
theorem dX0_readDigits_57 : decode cX0_readDigits 57 = .ok (.putfield 22, 3) := by decide +kernel
theorem dX0_readDigits_60 : decode cX0_readDigits 60 = .ok (.iinc 3 1, 3) := by decide +kernel
theorem dX0_readDigits_63 : decode cX0_readDigits 63 = .ok (.goto (-59), 3) := by decide +kernel
theorem dX0_readDigits_66 : decode cX0_readDigits 66 = .ok (.aload_n 0, 1) := by decide +kernel
theorem dX0_readDigits_67 : decode cX0_readDigits 67 = .ok (.iload_n 2, 1) := by decide +kernel
theorem dX0_readDigits_68 : decode cX0_readDigits 68 = .ok (.invokevirtual 93, 3) := by decide +kernel
theorem dX0_readDigits_71 : decode cX0_readDigits 71 = .ok (.iload_n 3, 1) := by decide +kernel
theorem dX0_readDigits_72 : decode cX0_readDigits 72 = .ok (.ifCond .le 7, 3) := by decide +kernel
theorem dX0_readDigits_75 : decode cX0_readDigits 75 = .ok (.iconst 1, 1) := by decide +kernel
theorem dX0_readDigits_76 : decode cX0_readDigits 76 = .ok (.goto 4, 3) := by decide +kernel
theorem dX0_readDigits_79 : decode cX0_readDigits 79 = .ok (.iconst 0, 1) := by decide +kernel
theorem dX0_readDigits_80 : decode cX0_readDigits 80 = .ok (.ireturn, 1) := by decide +kernel
theorem dX0_readDirection_0 : decode cX0_readDirection 0 = .ok (.aload_n 0, 1) := by decide +kernel
theorem dX0_readDirection_1 : decode cX0_readDirection 1 = .ok (.getfield 12, 3) := by decide +kernel
theorem dX0_readDirection_4 : decode cX0_readDirection 4 = .ok (.aload_n 0, 1) := by decide +kernel
theorem dX0_readDirection_5 : decode cX0_readDirection 5 = .ok (.getfield 22, 3) := by decide +kernel
theorem dX0_readDirection_8 : decode cX0_readDirection 8 = .ok (.invokevirtual 47, 3) := by decide +kernel
theorem dX0_readDirection_11 : decode cX0_readDirection 11 = .ok (.istore_n 1, 1) := by decide +kernel
theorem dX0_readDirection_12 : decode cX0_readDirection 12 = .ok (.iload_n 1, 1) := by decide +kernel
theorem dX0_readDirection_13 : decode cX0_readDirection 13 = .ok (.invokestatic 97, 3) := by decide +kernel
theorem dX0_readDirection_16 : decode cX0_readDirection 16 = .ok (.ifCond .ne 5, 3) := by decide +kernel
theorem dX0_readDirection_19 : decode cX0_readDirection 19 = .ok (.iconst 0, 1) := by decide +kernel
theorem dX0_readDirection_20 : decode cX0_readDirection 20 = .ok (.ireturn, 1) := by decide +kernel
theorem dX0_readDirection_21 : decode cX0_readDirection 21 = .ok (.aload_n 0, 1) := by decide +kernel
theorem dX0_readDirection_22 : decode cX0_readDirection 22 = .ok (.iload_n 1, 1) := by decide +kernel
theorem dX0_readDirection_23 : decode cX0_readDirection 23 = .ok (.invokevirtual 93, 3) := by decide +kernel
theorem dX0_readDirection_26 : decode cX0_readDirection 26 = .ok (.aload_n 0, 1) := by decide +kernel
theorem dX0_readDirection_27 : decode cX0_readDirection 27 = .ok (.dup, 1) := by decide +kernel
theorem dX0_readDirection_28 : decode cX0_readDirection 28 = .ok (.getfield 22, 3) := by decide +kernel
theorem dX0_readDirection_31 : decode cX0_readDirection 31 = .ok (.iconst 1, 1) := by decide +kernel
theorem dX0_readDirection_32 : decode cX0_readDirection 32 = .ok (.iadd, 1) := by decide +kernel
theorem dX0_readDirection_33 : decode cX0_readDirection 33 = .ok (.putfield 22, 3) := by decide +kernel
theorem dX0_readDirection_36 : decode cX0_readDirection 36 = .ok (.iconst 1, 1) := by decide +kernel
theorem dX0_readDirection_37 : decode cX0_readDirection 37 = .ok (.ireturn, 1) := by decide +kernel
theorem dX0_readSign_0 : decode cX0_readSign 0 = .ok (.aload_n 0, 1) := by decide +kernel
theorem dX0_readSign_1 : decode cX0_readSign 1 = .ok (.getfield 12, 3) := by decide +kernel
theorem dX0_readSign_4 : decode cX0_readSign 4 = .ok (.aload_n 0, 1) := by decide +kernel
theorem dX0_readSign_5 : decode cX0_readSign 5 = .ok (.getfield 22, 3) := by decide +kernel
theorem dX0_readSign_8 : decode cX0_readSign 8 = .ok (.invokevirtual 47, 3) := by decide +kernel
theorem dX0_readSign_11 : decode cX0_readSign 11 = .ok (.iload_n 1, 1) := by decide +kernel
theorem dX0_readSign_12 : decode cX0_readSign 12 = .ok (.if_icmp .eq 5, 3) := by decide +kernel
theorem dX0_readSign_15 : decode cX0_readSign 15 = .ok (.iconst 0, 1) := by decide +kernel
theorem dX0_readSign_16 : decode cX0_readSign 16 = .ok (.ireturn, 1) := by decide +kernel
theorem dX0_readSign_17 : decode cX0_readSign 17 = .ok (.aload_n 0, 1) := by decide +kernel
theorem dX0_readSign_18 : decode cX0_readSign 18 = .ok (.dup, 1) := by decide +kernel
theorem dX0_readSign_19 : decode cX0_readSign 19 = .ok (.getfield 22, 3) := by decide +kernel
theorem dX0_readSign_22 : decode cX0_readSign 22 = .ok (.iconst 1, 1) := by decide +kernel
theorem dX0_readSign_23 : decode cX0_readSign 23 = .ok (.iadd, 1) := by decide +kernel
theorem dX0_readSign_24 : decode cX0_readSign 24 = .ok (.putfield 22, 3) := by decide +kernel
theorem dX0_readSign_27 : decode cX0_readSign 27 = .ok (.iconst 1, 1) := by decide +kernel
theorem dX0_readSign_28 : decode cX0_readSign 28 = .ok (.ireturn, 1) := by decide +kernel
theorem dX0_keepArgument_0 : decode cX0_keepArgument 0 = .ok (.aload_n 0, 1) := by decide +kernel
theorem dX0_keepArgument_1 : decode cX0_keepArgument 1 = .ok (.getfield 18, 3) := by decide +kernel
theorem dX0_keepArgument_4 : decode cX0_keepArgument 4 = .ok (.aload_n 0, 1) := by decide +kernel
theorem dX0_keepArgument_5 : decode cX0_keepArgument 5 = .ok (.getfield 26, 3) := by decide +kernel
theorem dX0_keepArgument_8 : decode cX0_keepArgument 8 = .ok (.iload_n 1, 1) := by decide +kernel
theorem dX0_keepArgument_9 : decode cX0_keepArgument 9 = .ok (.invokestatic 100, 3) := by decide +kernel
theorem dX0_keepArgument_12 : decode cX0_keepArgument 12 = .ok (.aload_n 0, 1) := by decide +kernel
theorem dX0_keepArgument_13 : decode cX0_keepArgument 13 = .ok (.dup, 1) := by decide +kernel
theorem dX0_keepArgument_14 : decode cX0_keepArgument 14 = .ok (.getfield 26, 3) := by decide +kernel
theorem dX0_keepArgument_17 : decode cX0_keepArgument 17 = .ok (.iconst 1, 1) := by decide +kernel
theorem dX0_keepArgument_18 : decode cX0_keepArgument 18 = .ok (.iadd, 1) := by decide +kernel
theorem dX0_keepArgument_19 : decode cX0_keepArgument 19 = .ok (.putfield 26, 3) := by decide +kernel
theorem dX0_keepArgument_22 : decode cX0_keepArgument 22 = .ok (.return_, 1) := by decide +kernel
theorem dX1_init_0 : decode cX1_init 0 = .ok (.aload_n 0, 1) := by decide +kernel
theorem dX1_init_1 : decode cX1_init 1 = .ok (.invokespecial 5, 3) := by decide +kernel
theorem dX1_init_4 : decode cX1_init 4 = .ok (.aload_n 0, 1) := by decide +kernel
theorem dX1_init_5 : decode cX1_init 5 = .ok (.bipush 12, 2) := by decide +kernel
theorem dX1_init_7 : decode cX1_init 7 = .ok (.newarray .int, 2) := by decide +kernel
theorem dX1_init_9 : decode cX1_init 9 = .ok (.putfield 11, 3) := by decide +kernel
theorem dX1_init_12 : decode cX1_init 12 = .ok (.aload_n 0, 1) := by decide +kernel
theorem dX1_init_13 : decode cX1_init 13 = .ok (.bipush 12, 2) := by decide +kernel
theorem dX1_init_15 : decode cX1_init 15 = .ok (.newarray .int, 2) := by decide +kernel
theorem dX1_init_17 : decode cX1_init 17 = .ok (.putfield 15, 3) := by decide +kernel
theorem dX1_init_20 : decode cX1_init 20 = .ok (.aload_n 0, 1) := by decide +kernel
theorem dX1_init_21 : decode cX1_init 21 = .ok (.bipush 12, 2) := by decide +kernel
theorem dX1_init_23 : decode cX1_init 23 = .ok (.newarray .int, 2) := by decide +kernel
theorem dX1_init_25 : decode cX1_init 25 = .ok (.putfield 18, 3) := by decide +kernel
theorem dX1_init_28 : decode cX1_init 28 = .ok (.aload_n 0, 1) := by decide +kernel
theorem dX1_init_29 : decode cX1_init 29 = .ok (.bipush 12, 2) := by decide +kernel
theorem dX1_init_31 : decode cX1_init 31 = .ok (.newarray .int, 2) := by decide +kernel
theorem dX1_init_33 : decode cX1_init 33 = .ok (.putfield 21, 3) := by decide +kernel
theorem dX1_init_36 : decode cX1_init 36 = .ok (.aload_n 0, 1) := by decide +kernel
theorem dX1_init_37 : decode cX1_init 37 = .ok (.bipush 12, 2) := by decide +kernel
theorem dX1_init_39 : decode cX1_init 39 = .ok (.newarray .int, 2) := by decide +kernel
theorem dX1_init_41 : decode cX1_init 41 = .ok (.putfield 24, 3) := by decide +kernel
theorem dX1_init_44 : decode cX1_init 44 = .ok (.aload_n 0, 1) := by decide +kernel
theorem dX1_init_45 : decode cX1_init 45 = .ok (.bipush 12, 2) := by decide +kernel
theorem dX1_init_47 : decode cX1_init 47 = .ok (.newarray .int, 2) := by decide +kernel
theorem dX1_init_49 : decode cX1_init 49 = .ok (.putfield 27, 3) := by decide +kernel
theorem dX1_init_52 : decode cX1_init 52 = .ok (.aload_n 0, 1) := by decide +kernel
theorem dX1_init_53 : decode cX1_init 53 = .ok (.bipush 90, 2) := by decide +kernel
theorem dX1_init_55 : decode cX1_init 55 = .ok (.newarray .int, 2) := by decide +kernel
theorem dX1_init_57 : decode cX1_init 57 = .ok (.putfield 30, 3) := by decide +kernel
theorem dX1_init_60 : decode cX1_init 60 = .ok (.aload_n 0, 1) := by decide +kernel
theorem dX1_init_61 : decode cX1_init 61 = .ok (.bipush 24, 2) := by decide +kernel
theorem dX1_init_63 : decode cX1_init 63 = .ok (.newarray .int, 2) := by decide +kernel
theorem dX1_init_65 : decode cX1_init 65 = .ok (.putfield 33, 3) := by decide +kernel
theorem dX1_init_68 : decode cX1_init 68 = .ok (.aload_n 0, 1) := by decide +kernel
theorem dX1_init_69 : decode cX1_init 69 = .ok (.bipush 24, 2) := by decide +kernel
theorem dX1_init_71 : decode cX1_init 71 = .ok (.newarray .int, 2) := by decide +kernel
theorem dX1_init_73 : decode cX1_init 73 = .ok (.putfield 36, 3) := by decide +kernel
theorem dX1_init_76 : decode cX1_init 76 = .ok (.aload_n 0, 1) := by decide +kernel
theorem dX1_init_77 : decode cX1_init 77 = .ok (.bipush 78, 2) := by decide +kernel
theorem dX1_init_79 : decode cX1_init 79 = .ok (.putfield 39, 3) := by decide +kernel
theorem dX1_init_82 : decode cX1_init 82 = .ok (.aload_n 0, 1) := by decide +kernel
theorem dX1_init_83 : decode cX1_init 83 = .ok (.sipush 999, 3) := by decide +kernel
theorem dX1_init_86 : decode cX1_init 86 = .ok (.putfield 43, 3) := by decide +kernel
theorem dX1_init_89 : decode cX1_init 89 = .ok (.return_, 1) := by decide +kernel
theorem dX1_copyFrom_0 : decode cX1_copyFrom 0 = .ok (.aload_n 1, 1) := by decide +kernel
theorem dX1_copyFrom_1 : decode cX1_copyFrom 1 = .ok (.getfield 11, 3) := by decide +kernel
theorem dX1_copyFrom_4 : decode cX1_copyFrom 4 = .ok (.aload_n 0, 1) := by decide +kernel
theorem dX1_copyFrom_5 : decode cX1_copyFrom 5 = .ok (.getfield 11, 3) := by decide +kernel
theorem dX1_copyFrom_8 : decode cX1_copyFrom 8 = .ok (.invokestatic 47, 3) := by decide +kernel
theorem dX1_copyFrom_11 : decode cX1_copyFrom 11 = .ok (.aload_n 1, 1) := by decide +kernel
theorem dX1_copyFrom_12 : decode cX1_copyFrom 12 = .ok (.getfield 15, 3) := by decide +kernel
theorem dX1_copyFrom_15 : decode cX1_copyFrom 15 = .ok (.aload_n 0, 1) := by decide +kernel
theorem dX1_copyFrom_16 : decode cX1_copyFrom 16 = .ok (.getfield 15, 3) := by decide +kernel
theorem dX1_copyFrom_19 : decode cX1_copyFrom 19 = .ok (.invokestatic 47, 3) := by decide +kernel
theorem dX1_copyFrom_22 : decode cX1_copyFrom 22 = .ok (.aload_n 1, 1) := by decide +kernel
theorem dX1_copyFrom_23 : decode cX1_copyFrom 23 = .ok (.getfield 18, 3) := by decide +kernel
theorem dX1_copyFrom_26 : decode cX1_copyFrom 26 = .ok (.aload_n 0, 1) := by decide +kernel
theorem dX1_copyFrom_27 : decode cX1_copyFrom 27 = .ok (.getfield 18, 3) := by decide +kernel
theorem dX1_copyFrom_30 : decode cX1_copyFrom 30 = .ok (.invokestatic 47, 3) := by decide +kernel
theorem dX1_copyFrom_33 : decode cX1_copyFrom 33 = .ok (.aload_n 1, 1) := by decide +kernel
theorem dX1_copyFrom_34 : decode cX1_copyFrom 34 = .ok (.getfield 21, 3) := by decide +kernel
theorem dX1_copyFrom_37 : decode cX1_copyFrom 37 = .ok (.aload_n 0, 1) := by decide +kernel
theorem dX1_copyFrom_38 : decode cX1_copyFrom 38 = .ok (.getfield 21, 3) := by decide +kernel
theorem dX1_copyFrom_41 : decode cX1_copyFrom 41 = .ok (.invokestatic 47, 3) := by decide +kernel
theorem dX1_copyFrom_44 : decode cX1_copyFrom 44 = .ok (.aload_n 1, 1) := by decide +kernel
theorem dX1_copyFrom_45 : decode cX1_copyFrom 45 = .ok (.getfield 24, 3) := by decide +kernel
theorem dX1_copyFrom_48 : decode cX1_copyFrom 48 = .ok (.aload_n 0, 1) := by decide +kernel
theorem dX1_copyFrom_49 : decode cX1_copyFrom 49 = .ok (.getfield 24, 3) := by decide +kernel
theorem dX1_copyFrom_52 : decode cX1_copyFrom 52 = .ok (.invokestatic 47, 3) := by decide +kernel
theorem dX1_copyFrom_55 : decode cX1_copyFrom 55 = .ok (.aload_n 1, 1) := by decide +kernel
theorem dX1_copyFrom_56 : decode cX1_copyFrom 56 = .ok (.getfield 27, 3) := by decide +kernel
theorem dX1_copyFrom_59 : decode cX1_copyFrom 59 = .ok (.aload_n 0, 1) := by decide +kernel
theorem dX1_copyFrom_60 : decode cX1_copyFrom 60 = .ok (.getfield 27, 3) := by decide +kernel
theorem dX1_copyFrom_63 : decode cX1_copyFrom 63 = .ok (.invokestatic 47, 3) := by decide +kernel
theorem dX1_copyFrom_66 : decode cX1_copyFrom 66 = .ok (.aload_n 1, 1) := by decide +kernel
theorem dX1_copyFrom_67 : decode cX1_copyFrom 67 = .ok (.getfield 30, 3) := by decide +kernel
theorem dX1_copyFrom_70 : decode cX1_copyFrom 70 = .ok (.aload_n 0, 1) := by decide +kernel
theorem dX1_copyFrom_71 : decode cX1_copyFrom 71 = .ok (.getfield 30, 3) := by decide +kernel
theorem dX1_copyFrom_74 : decode cX1_copyFrom 74 = .ok (.invokestatic 47, 3) := by decide +kernel
theorem dX1_copyFrom_77 : decode cX1_copyFrom 77 = .ok (.aload_n 1, 1) := by decide +kernel
theorem dX1_copyFrom_78 : decode cX1_copyFrom 78 = .ok (.getfield 33, 3) := by decide +kernel
theorem dX1_copyFrom_81 : decode cX1_copyFrom 81 = .ok (.aload_n 0, 1) := by decide +kernel
theorem dX1_copyFrom_82 : decode cX1_copyFrom 82 = .ok (.getfield 33, 3) := by decide +kernel
theorem dX1_copyFrom_85 : decode cX1_copyFrom 85 = .ok (.invokestatic 47, 3) := by decide +kernel
theorem dX1_copyFrom_88 : decode cX1_copyFrom 88 = .ok (.aload_n 1, 1) := by decide +kernel
theorem dX1_copyFrom_89 : decode cX1_copyFrom 89 = .ok (.getfield 36, 3) := by decide +kernel
theorem dX1_copyFrom_92 : decode cX1_copyFrom 92 = .ok (.aload_n 0, 1) := by decide +kernel
theorem dX1_copyFrom_93 : decode cX1_copyFrom 93 = .ok (.getfield 36, 3) := by decide +kernel
theorem dX1_copyFrom_96 : decode cX1_copyFrom 96 = .ok (.invokestatic 47, 3) := by decide +kernel
theorem dX1_copyFrom_99 : decode cX1_copyFrom 99 = .ok (.aload_n 0, 1) := by decide +kernel
theorem dX1_copyFrom_100 : decode cX1_copyFrom 100 = .ok (.aload_n 1, 1) := by decide +kernel
theorem dX1_copyFrom_101 : decode cX1_copyFrom 101 = .ok (.getfield 51, 3) := by decide +kernel
theorem dX1_copyFrom_104 : decode cX1_copyFrom 104 = .ok (.putfield 51, 3) := by decide +kernel
theorem dX1_copyFrom_107 : decode cX1_copyFrom 107 = .ok (.aload_n 0, 1) := by decide +kernel
theorem dX1_copyFrom_108 : decode cX1_copyFrom 108 = .ok (.aload_n 1, 1) := by decide +kernel
theorem dX1_copyFrom_109 : decode cX1_copyFrom 109 = .ok (.getfield 39, 3) := by decide +kernel
theorem dX1_copyFrom_112 : decode cX1_copyFrom 112 = .ok (.putfield 39, 3) := by decide +kernel
theorem dX1_copyFrom_115 : decode cX1_copyFrom 115 = .ok (.aload_n 0, 1) := by decide +kernel
theorem dX1_copyFrom_116 : decode cX1_copyFrom 116 = .ok (.aload_n 1, 1) := by decide +kernel
theorem dX1_copyFrom_117 : decode cX1_copyFrom 117 = .ok (.getfield 54, 3) := by decide +kernel
theorem dX1_copyFrom_120 : decode cX1_copyFrom 120 = .ok (.putfield 54, 3) := by decide +kernel
theorem dX1_copyFrom_123 : decode cX1_copyFrom 123 = .ok (.aload_n 0, 1) := by decide +kernel
theorem dX1_copyFrom_124 : decode cX1_copyFrom 124 = .ok (.aload_n 1, 1) := by decide +kernel
theorem dX1_copyFrom_125 : decode cX1_copyFrom 125 = .ok (.getfield 43, 3) := by decide +kernel
theorem dX1_copyFrom_128 : decode cX1_copyFrom 128 = .ok (.putfield 43, 3) := by decide +kernel
theorem dX1_copyFrom_131 : decode cX1_copyFrom 131 = .ok (.aload_n 0, 1) := by decide +kernel
theorem dX1_copyFrom_132 : decode cX1_copyFrom 132 = .ok (.aload_n 1, 1) := by decide +kernel
theorem dX1_copyFrom_133 : decode cX1_copyFrom 133 = .ok (.getfield 57, 3) := by decide +kernel
theorem dX1_copyFrom_136 : decode cX1_copyFrom 136 = .ok (.putfield 57, 3) := by decide +kernel
theorem dX1_copyFrom_139 : decode cX1_copyFrom 139 = .ok (.aload_n 0, 1) := by decide +kernel
theorem dX1_copyFrom_140 : decode cX1_copyFrom 140 = .ok (.aload_n 1, 1) := by decide +kernel
theorem dX1_copyFrom_141 : decode cX1_copyFrom 141 = .ok (.getfield 60, 3) := by decide +kernel
theorem dX1_copyFrom_144 : decode cX1_copyFrom 144 = .ok (.putfield 60, 3) := by decide +kernel
theorem dX1_copyFrom_147 : decode cX1_copyFrom 147 = .ok (.aload_n 0, 1) := by decide +kernel
theorem dX1_copyFrom_148 : decode cX1_copyFrom 148 = .ok (.aload_n 1, 1) := by decide +kernel
theorem dX1_copyFrom_149 : decode cX1_copyFrom 149 = .ok (.getfield 64, 3) := by decide +kernel
theorem dX1_copyFrom_152 : decode cX1_copyFrom 152 = .ok (.putfield 64, 3) := by decide +kernel
theorem dX1_copyFrom_155 : decode cX1_copyFrom 155 = .ok (.aload_n 0, 1) := by decide +kernel
theorem dX1_copyFrom_156 : decode cX1_copyFrom 156 = .ok (.aload_n 1, 1) := by decide +kernel
theorem dX1_copyFrom_157 : decode cX1_copyFrom 157 = .ok (.getfield 67, 3) := by decide +kernel
theorem dX1_copyFrom_160 : decode cX1_copyFrom 160 = .ok (.putfield 67, 3) := by decide +kernel
theorem dX1_copyFrom_163 : decode cX1_copyFrom 163 = .ok (.aload_n 0, 1) := by decide +kernel
theorem dX1_copyFrom_164 : decode cX1_copyFrom 164 = .ok (.aload_n 1, 1) := by decide +kernel
theorem dX1_copyFrom_165 : decode cX1_copyFrom 165 = .ok (.getfield 70, 3) := by decide +kernel
theorem dX1_copyFrom_168 : decode cX1_copyFrom 168 = .ok (.putfield 70, 3) := by decide +kernel
theorem dX1_copyFrom_171 : decode cX1_copyFrom 171 = .ok (.aload_n 0, 1) := by decide +kernel
theorem dX1_copyFrom_172 : decode cX1_copyFrom 172 = .ok (.aload_n 1, 1) := by decide +kernel
theorem dX1_copyFrom_173 : decode cX1_copyFrom 173 = .ok (.getfield 73, 3) := by decide +kernel
theorem dX1_copyFrom_176 : decode cX1_copyFrom 176 = .ok (.putfield 73, 3) := by decide +kernel
theorem dX1_copyFrom_179 : decode cX1_copyFrom 179 = .ok (.return_, 1) := by decide +kernel
theorem dX1_copyRow_0 : decode cX1_copyRow 0 = .ok (.iconst 0, 1) := by decide +kernel
theorem dX1_copyRow_1 : decode cX1_copyRow 1 = .ok (.istore_n 2, 1) := by decide +kernel
theorem dX1_copyRow_2 : decode cX1_copyRow 2 = .ok (.iload_n 2, 1) := by decide +kernel
theorem dX1_copyRow_3 : decode cX1_copyRow 3 = .ok (.aload_n 0, 1) := by decide +kernel
theorem dX1_copyRow_4 : decode cX1_copyRow 4 = .ok (.arraylength, 1) := by decide +kernel
theorem dX1_copyRow_5 : decode cX1_copyRow 5 = .ok (.if_icmp .ge 21, 3) := by decide +kernel
theorem dX1_copyRow_8 : decode cX1_copyRow 8 = .ok (.iload_n 2, 1) := by decide +kernel
theorem dX1_copyRow_9 : decode cX1_copyRow 9 = .ok (.aload_n 1, 1) := by decide +kernel
theorem dX1_copyRow_10 : decode cX1_copyRow 10 = .ok (.arraylength, 1) := by decide +kernel
theorem dX1_copyRow_11 : decode cX1_copyRow 11 = .ok (.if_icmp .ge 15, 3) := by decide +kernel
theorem dX1_copyRow_14 : decode cX1_copyRow 14 = .ok (.aload_n 1, 1) := by decide +kernel
theorem dX1_copyRow_15 : decode cX1_copyRow 15 = .ok (.iload_n 2, 1) := by decide +kernel
theorem dX1_copyRow_16 : decode cX1_copyRow 16 = .ok (.aload_n 0, 1) := by decide +kernel
theorem dX1_copyRow_17 : decode cX1_copyRow 17 = .ok (.iload_n 2, 1) := by decide +kernel
theorem dX1_copyRow_18 : decode cX1_copyRow 18 = .ok (.iaload, 1) := by decide +kernel
theorem dX1_copyRow_19 : decode cX1_copyRow 19 = .ok (.iastore, 1) := by decide +kernel
theorem dX1_copyRow_20 : decode cX1_copyRow 20 = .ok (.iinc 2 1, 3) := by decide +kernel
theorem dX1_copyRow_23 : decode cX1_copyRow 23 = .ok (.goto (-21), 3) := by decide +kernel
theorem dX1_copyRow_26 : decode cX1_copyRow 26 = .ok (.return_, 1) := by decide +kernel
theorem dX1_hasTurbine_0 : decode cX1_hasTurbine 0 = .ok (.iload_n 1, 1) := by decide +kernel
theorem dX1_hasTurbine_1 : decode cX1_hasTurbine 1 = .ok (.ifCond .lt 15, 3) := by decide +kernel
theorem dX1_hasTurbine_4 : decode cX1_hasTurbine 4 = .ok (.iload_n 1, 1) := by decide +kernel
theorem dX1_hasTurbine_5 : decode cX1_hasTurbine 5 = .ok (.aload_n 0, 1) := by decide +kernel
theorem dX1_hasTurbine_6 : decode cX1_hasTurbine 6 = .ok (.getfield 51, 3) := by decide +kernel
theorem dX1_hasTurbine_9 : decode cX1_hasTurbine 9 = .ok (.if_icmp .ge 7, 3) := by decide +kernel
theorem dX1_hasTurbine_12 : decode cX1_hasTurbine 12 = .ok (.iconst 1, 1) := by decide +kernel
theorem dX1_hasTurbine_13 : decode cX1_hasTurbine 13 = .ok (.goto 4, 3) := by decide +kernel
theorem dX1_hasTurbine_16 : decode cX1_hasTurbine 16 = .ok (.iconst 0, 1) := by decide +kernel
theorem dX1_hasTurbine_17 : decode cX1_hasTurbine 17 = .ok (.ireturn, 1) := by decide +kernel
theorem dX1_turbineIn_0 : decode cX1_turbineIn 0 = .ok (.aload_n 0, 1) := by decide +kernel
theorem dX1_turbineIn_1 : decode cX1_turbineIn 1 = .ok (.getfield 30, 3) := by decide +kernel
theorem dX1_turbineIn_4 : decode cX1_turbineIn 4 = .ok (.iload_n 1, 1) := by decide +kernel
theorem dX1_turbineIn_5 : decode cX1_turbineIn 5 = .ok (.iload_n 2, 1) := by decide +kernel
theorem dX1_turbineIn_6 : decode cX1_turbineIn 6 = .ok (.invokestatic 76, 3) := by decide +kernel
theorem dX1_turbineIn_9 : decode cX1_turbineIn 9 = .ok (.invokestatic 80, 3) := by decide +kernel
theorem dX1_turbineIn_12 : decode cX1_turbineIn 12 = .ok (.iconst 1, 1) := by decide +kernel
theorem dX1_turbineIn_13 : decode cX1_turbineIn 13 = .ok (.isub, 1) := by decide +kernel
theorem dX1_turbineIn_14 : decode cX1_turbineIn 14 = .ok (.ireturn, 1) := by decide +kernel
theorem dX1_isInState_0 : decode cX1_isInState 0 = .ok (.iload_n 1, 1) := by decide +kernel
theorem dX1_isInState_1 : decode cX1_isInState 1 = .ok (.ifCond .lt 26, 3) := by decide +kernel
theorem dX1_isInState_4 : decode cX1_isInState 4 = .ok (.iload_n 1, 1) := by decide +kernel
theorem dX1_isInState_5 : decode cX1_isInState 5 = .ok (.aload_n 0, 1) := by decide +kernel
theorem dX1_isInState_6 : decode cX1_isInState 6 = .ok (.getfield 21, 3) := by decide +kernel
theorem dX1_isInState_9 : decode cX1_isInState 9 = .ok (.arraylength, 1) := by decide +kernel
theorem dX1_isInState_10 : decode cX1_isInState 10 = .ok (.if_icmp .ge 17, 3) := by decide +kernel
theorem dX1_isInState_13 : decode cX1_isInState 13 = .ok (.aload_n 0, 1) := by decide +kernel
theorem dX1_isInState_14 : decode cX1_isInState 14 = .ok (.getfield 21, 3) := by decide +kernel
theorem dX1_isInState_17 : decode cX1_isInState 17 = .ok (.iload_n 1, 1) := by decide +kernel
theorem dX1_isInState_18 : decode cX1_isInState 18 = .ok (.iaload, 1) := by decide +kernel
theorem dX1_isInState_19 : decode cX1_isInState 19 = .ok (.iload_n 2, 1) := by decide +kernel
theorem dX1_isInState_20 : decode cX1_isInState 20 = .ok (.if_icmp .ne 7, 3) := by decide +kernel
theorem dX1_isInState_23 : decode cX1_isInState 23 = .ok (.iconst 1, 1) := by decide +kernel
theorem dX1_isInState_24 : decode cX1_isInState 24 = .ok (.goto 4, 3) := by decide +kernel
theorem dX1_isInState_27 : decode cX1_isInState 27 = .ok (.iconst 0, 1) := by decide +kernel
theorem dX1_isInState_28 : decode cX1_isInState 28 = .ok (.ireturn, 1) := by decide +kernel
theorem dX1_isCurtailed_0 : decode cX1_isCurtailed 0 = .ok (.aload_n 0, 1) := by decide +kernel
theorem dX1_isCurtailed_1 : decode cX1_isCurtailed 1 = .ok (.iload_n 1, 1) := by decide +kernel
theorem dX1_isCurtailed_2 : decode cX1_isCurtailed 2 = .ok (.iconst 1, 1) := by decide +kernel
theorem dX1_isCurtailed_3 : decode cX1_isCurtailed 3 = .ok (.invokevirtual 84, 3) := by decide +kernel
theorem dX1_isCurtailed_6 : decode cX1_isCurtailed 6 = .ok (.ifCond .eq 19, 3) := by decide +kernel
theorem dX1_isCurtailed_9 : decode cX1_isCurtailed 9 = .ok (.aload_n 0, 1) := by decide +kernel
theorem dX1_isCurtailed_10 : decode cX1_isCurtailed 10 = .ok (.getfield 24, 3) := by decide +kernel
theorem dX1_isCurtailed_13 : decode cX1_isCurtailed 13 = .ok (.iload_n 1, 1) := by decide +kernel
theorem dX1_isCurtailed_14 : decode cX1_isCurtailed 14 = .ok (.invokestatic 80, 3) := by decide +kernel
theorem dX1_isCurtailed_17 : decode cX1_isCurtailed 17 = .ok (.iconst (-1), 1) := by decide +kernel
theorem dX1_isCurtailed_18 : decode cX1_isCurtailed 18 = .ok (.if_icmp .eq 7, 3) := by decide +kernel
theorem dX1_isCurtailed_21 : decode cX1_isCurtailed 21 = .ok (.iconst 1, 1) := by decide +kernel
theorem dX1_isCurtailed_22 : decode cX1_isCurtailed 22 = .ok (.goto 4, 3) := by decide +kernel
theorem dX1_isCurtailed_25 : decode cX1_isCurtailed 25 = .ok (.iconst 0, 1) := by decide +kernel
theorem dX1_isCurtailed_26 : decode cX1_isCurtailed 26 = .ok (.ireturn, 1) := by decide +kernel
theorem dX1_countInState_0 : decode cX1_countInState 0 = .ok (.iconst 0, 1) := by decide +kernel
theorem dX1_countInState_1 : decode cX1_countInState 1 = .ok (.istore_n 2, 1) := by decide +kernel
theorem dX1_countInState_2 : decode cX1_countInState 2 = .ok (.iconst 0, 1) := by decide +kernel
theorem dX1_countInState_3 : decode cX1_countInState 3 = .ok (.istore_n 3, 1) := by decide +kernel
theorem dX1_countInState_4 : decode cX1_countInState 4 = .ok (.iload_n 3, 1) := by decide +kernel
theorem dX1_countInState_5 : decode cX1_countInState 5 = .ok (.aload_n 0, 1) := by decide +kernel
theorem dX1_countInState_6 : decode cX1_countInState 6 = .ok (.getfield 51, 3) := by decide +kernel
theorem dX1_countInState_9 : decode cX1_countInState 9 = .ok (.if_icmp .ge 21, 3) := by decide +kernel
theorem dX1_countInState_12 : decode cX1_countInState 12 = .ok (.aload_n 0, 1) := by decide +kernel
theorem dX1_countInState_13 : decode cX1_countInState 13 = .ok (.iload_n 3, 1) := by decide +kernel
theorem dX1_countInState_14 : decode cX1_countInState 14 = .ok (.iload_n 1, 1) := by decide +kernel
theorem dX1_countInState_15 : decode cX1_countInState 15 = .ok (.invokevirtual 84, 3) := by decide +kernel
theorem dX1_countInState_18 : decode cX1_countInState 18 = .ok (.ifCond .eq 6, 3) := by decide +kernel
theorem dX1_countInState_21 : decode cX1_countInState 21 = .ok (.iinc 2 1, 3) := by decide +kernel
theorem dX1_countInState_24 : decode cX1_countInState 24 = .ok (.iinc 3 1, 3) := by decide +kernel
theorem dX1_countInState_27 : decode cX1_countInState 27 = .ok (.goto (-23), 3) := by decide +kernel
theorem dX1_countInState_30 : decode cX1_countInState 30 = .ok (.iload_n 2, 1) := by decide +kernel
theorem dX1_countInState_31 : decode cX1_countInState 31 = .ok (.ireturn, 1) := by decide +kernel
theorem dX1_crewsLeft_0 : decode cX1_crewsLeft 0 = .ok (.iconst 2, 1) := by decide +kernel
theorem dX1_crewsLeft_1 : decode cX1_crewsLeft 1 = .ok (.aload_n 0, 1) := by decide +kernel
theorem dX1_crewsLeft_2 : decode cX1_crewsLeft 2 = .ok (.iconst 3, 1) := by decide +kernel
theorem dX1_crewsLeft_3 : decode cX1_crewsLeft 3 = .ok (.invokevirtual 88, 3) := by decide +kernel
theorem dX1_crewsLeft_6 : decode cX1_crewsLeft 6 = .ok (.isub, 1) := by decide +kernel
theorem dX1_crewsLeft_7 : decode cX1_crewsLeft 7 = .ok (.ireturn, 1) := by decide +kernel
theorem dX1_firstInService_0 : decode cX1_firstInService 0 = .ok (.iconst 0, 1) := by decide +kernel
theorem dX1_firstInService_1 : decode cX1_firstInService 1 = .ok (.istore_n 1, 1) := by decide +kernel
theorem dX1_firstInService_2 : decode cX1_firstInService 2 = .ok (.iload_n 1, 1) := by decide +kernel
theorem dX1_firstInService_3 : decode cX1_firstInService 3 = .ok (.aload_n 0, 1) := by decide +kernel
theorem dX1_firstInService_4 : decode cX1_firstInService 4 = .ok (.getfield 51, 3) := by decide +kernel
theorem dX1_firstInService_7 : decode cX1_firstInService 7 = .ok (.if_icmp .ge 20, 3) := by decide +kernel
theorem dX1_firstInService_10 : decode cX1_firstInService 10 = .ok (.aload_n 0, 1) := by decide +kernel
theorem dX1_firstInService_11 : decode cX1_firstInService 11 = .ok (.iload_n 1, 1) := by decide +kernel
theorem dX1_firstInService_12 : decode cX1_firstInService 12 = .ok (.iconst 3, 1) := by decide +kernel
theorem dX1_firstInService_13 : decode cX1_firstInService 13 = .ok (.invokevirtual 84, 3) := by decide +kernel
theorem dX1_firstInService_16 : decode cX1_firstInService 16 = .ok (.ifCond .eq 5, 3) := by decide +kernel
theorem dX1_firstInService_19 : decode cX1_firstInService 19 = .ok (.iload_n 1, 1) := by decide +kernel
theorem dX1_firstInService_20 : decode cX1_firstInService 20 = .ok (.ireturn, 1) := by decide +kernel
theorem dX1_firstInService_21 : decode cX1_firstInService 21 = .ok (.iinc 1 1, 3) := by decide +kernel
theorem dX1_firstInService_24 : decode cX1_firstInService 24 = .ok (.goto (-22), 3) := by decide +kernel
theorem dX1_firstInService_27 : decode cX1_firstInService 27 = .ok (.iconst (-1), 1) := by decide +kernel
theorem dX1_firstInService_28 : decode cX1_firstInService 28 = .ok (.ireturn, 1) := by decide +kernel
theorem dX1_isBidFor_0 : decode cX1_isBidFor 0 = .ok (.aload_n 0, 1) := by decide +kernel
theorem dX1_isBidFor_1 : decode cX1_isBidFor 1 = .ok (.getfield 36, 3) := by decide +kernel
theorem dX1_isBidFor_4 : decode cX1_isBidFor 4 = .ok (.iload_n 1, 1) := by decide +kernel
theorem dX1_isBidFor_5 : decode cX1_isBidFor 5 = .ok (.invokestatic 80, 3) := by decide +kernel
theorem dX1_isBidFor_8 : decode cX1_isBidFor 8 = .ok (.ifCond .le 7, 3) := by decide +kernel
theorem dX1_isBidFor_11 : decode cX1_isBidFor 11 = .ok (.iconst 1, 1) := by decide +kernel
theorem dX1_isBidFor_12 : decode cX1_isBidFor 12 = .ok (.goto 4, 3) := by decide +kernel
theorem dX1_isBidFor_15 : decode cX1_isBidFor 15 = .ok (.iconst 0, 1) := by decide +kernel
theorem dX1_isBidFor_16 : decode cX1_isBidFor 16 = .ok (.ireturn, 1) := by decide +kernel
theorem dX1_countBids_0 : decode cX1_countBids 0 = .ok (.iconst 0, 1) := by decide +kernel
theorem dX1_countBids_1 : decode cX1_countBids 1 = .ok (.istore_n 1, 1) := by decide +kernel
theorem dX1_countBids_2 : decode cX1_countBids 2 = .ok (.iconst 0, 1) := by decide +kernel
theorem dX1_countBids_3 : decode cX1_countBids 3 = .ok (.istore_n 2, 1) := by decide +kernel
theorem dX1_countBids_4 : decode cX1_countBids 4 = .ok (.iload_n 2, 1) := by decide +kernel
theorem dX1_countBids_5 : decode cX1_countBids 5 = .ok (.bipush 24, 2) := by decide +kernel
theorem dX1_countBids_7 : decode cX1_countBids 7 = .ok (.if_icmp .ge 20, 3) := by decide +kernel
theorem dX1_countBids_10 : decode cX1_countBids 10 = .ok (.aload_n 0, 1) := by decide +kernel
theorem dX1_countBids_11 : decode cX1_countBids 11 = .ok (.iload_n 2, 1) := by decide +kernel
theorem dX1_countBids_12 : decode cX1_countBids 12 = .ok (.invokevirtual 92, 3) := by decide +kernel
theorem dX1_countBids_15 : decode cX1_countBids 15 = .ok (.ifCond .eq 6, 3) := by decide +kernel
theorem dX1_countBids_18 : decode cX1_countBids 18 = .ok (.iinc 1 1, 3) := by decide +kernel
theorem dX1_countBids_21 : decode cX1_countBids 21 = .ok (.iinc 2 1, 3) := by decide +kernel
theorem dX1_countBids_24 : decode cX1_countBids 24 = .ok (.goto (-20), 3) := by decide +kernel
theorem dX1_countBids_27 : decode cX1_countBids 27 = .ok (.iload_n 1, 1) := by decide +kernel
theorem dX1_countBids_28 : decode cX1_countBids 28 = .ok (.ireturn, 1) := by decide +kernel
theorem dX1_placeOf_0 : decode cX1_placeOf 0 = .ok (.iload_n 0, 1) := by decide +kernel
theorem dX1_placeOf_1 : decode cX1_placeOf 1 = .ok (.iconst 2, 1) := by decide +kernel
theorem dX1_placeOf_2 : decode cX1_placeOf 2 = .ok (.iadd, 1) := by decide +kernel
theorem dX1_placeOf_3 : decode cX1_placeOf 3 = .ok (.bipush 10, 2) := by decide +kernel
theorem dX1_placeOf_5 : decode cX1_placeOf 5 = .ok (.imul, 1) := by decide +kernel
theorem dX1_placeOf_6 : decode cX1_placeOf 6 = .ok (.iload_n 1, 1) := by decide +kernel
theorem dX1_placeOf_7 : decode cX1_placeOf 7 = .ok (.iadd, 1) := by decide +kernel
theorem dX1_placeOf_8 : decode cX1_placeOf 8 = .ok (.iconst 2, 1) := by decide +kernel
theorem dX1_placeOf_9 : decode cX1_placeOf 9 = .ok (.iadd, 1) := by decide +kernel
theorem dX1_placeOf_10 : decode cX1_placeOf 10 = .ok (.ireturn, 1) := by decide +kernel
theorem dX1_stepTowards_0 : decode cX1_stepTowards 0 = .ok (.iload_n 0, 1) := by decide +kernel
theorem dX1_stepTowards_1 : decode cX1_stepTowards 1 = .ok (.lookupswitch 43 #[(69, 38), (78, 35), (83, 40)], 35) := by decide +kernel
theorem dX1_stepTowards_36 : decode cX1_stepTowards 36 = .ok (.bipush (-10), 2) := by decide +kernel
theorem dX1_stepTowards_38 : decode cX1_stepTowards 38 = .ok (.ireturn, 1) := by decide +kernel
theorem dX1_stepTowards_39 : decode cX1_stepTowards 39 = .ok (.iconst 1, 1) := by decide +kernel
theorem dX1_stepTowards_40 : decode cX1_stepTowards 40 = .ok (.ireturn, 1) := by decide +kernel
theorem dX1_stepTowards_41 : decode cX1_stepTowards 41 = .ok (.bipush 10, 2) := by decide +kernel
theorem dX1_stepTowards_43 : decode cX1_stepTowards 43 = .ok (.ireturn, 1) := by decide +kernel
theorem dX1_stepTowards_44 : decode cX1_stepTowards 44 = .ok (.iconst (-1), 1) := by decide +kernel
theorem dX1_stepTowards_45 : decode cX1_stepTowards 45 = .ok (.ireturn, 1) := by decide +kernel
theorem dX1_lossIn_0 : decode cX1_lossIn 0 = .ok (.aload_n 0, 1) := by decide +kernel
theorem dX1_lossIn_1 : decode cX1_lossIn 1 = .ok (.getfield 11, 3) := by decide +kernel
theorem dX1_lossIn_4 : decode cX1_lossIn 4 = .ok (.iload_n 1, 1) := by decide +kernel
theorem dX1_lossIn_5 : decode cX1_lossIn 5 = .ok (.invokestatic 80, 3) := by decide +kernel
theorem dX1_lossIn_8 : decode cX1_lossIn 8 = .ok (.aload_n 0, 1) := by decide +kernel
theorem dX1_lossIn_9 : decode cX1_lossIn 9 = .ok (.getfield 15, 3) := by decide +kernel
theorem dX1_lossIn_12 : decode cX1_lossIn 12 = .ok (.iload_n 1, 1) := by decide +kernel
theorem dX1_lossIn_13 : decode cX1_lossIn 13 = .ok (.invokestatic 80, 3) := by decide +kernel
theorem dX1_lossIn_16 : decode cX1_lossIn 16 = .ok (.invokestatic 76, 3) := by decide +kernel
theorem dX1_lossIn_19 : decode cX1_lossIn 19 = .ok (.istore_n 3, 1) := by decide +kernel
theorem dX1_lossIn_20 : decode cX1_lossIn 20 = .ok (.iload_n 2, 1) := by decide +kernel
theorem dX1_lossIn_21 : decode cX1_lossIn 21 = .ok (.invokestatic 96, 3) := by decide +kernel
theorem dX1_lossIn_24 : decode cX1_lossIn 24 = .ok (.istore 4, 2) := by decide +kernel
theorem dX1_lossIn_26 : decode cX1_lossIn 26 = .ok (.aload_n 0, 1) := by decide +kernel
theorem dX1_lossIn_27 : decode cX1_lossIn 27 = .ok (.getfield 30, 3) := by decide +kernel
theorem dX1_lossIn_30 : decode cX1_lossIn 30 = .ok (.iload_n 3, 1) := by decide +kernel
theorem dX1_lossIn_31 : decode cX1_lossIn 31 = .ok (.iload 4, 2) := by decide +kernel
theorem dX1_lossIn_33 : decode cX1_lossIn 33 = .ok (.iadd, 1) := by decide +kernel
theorem dX1_lossIn_34 : decode cX1_lossIn 34 = .ok (.invokestatic 80, 3) := by decide +kernel
theorem dX1_lossIn_37 : decode cX1_lossIn 37 = .ok (.iconst 1, 1) := by decide +kernel
theorem dX1_lossIn_38 : decode cX1_lossIn 38 = .ok (.isub, 1) := by decide +kernel
theorem dX1_lossIn_39 : decode cX1_lossIn 39 = .ok (.istore 5, 2) := by decide +kernel
theorem dX1_lossIn_41 : decode cX1_lossIn 41 = .ok (.aload_n 0, 1) := by decide +kernel
theorem dX1_lossIn_42 : decode cX1_lossIn 42 = .ok (.getfield 30, 3) := by decide +kernel
theorem dX1_lossIn_45 : decode cX1_lossIn 45 = .ok (.iload_n 3, 1) := by decide +kernel
theorem dX1_lossIn_46 : decode cX1_lossIn 46 = .ok (.iconst 2, 1) := by decide +kernel
theorem dX1_lossIn_47 : decode cX1_lossIn 47 = .ok (.iload 4, 2) := by decide +kernel
theorem dX1_lossIn_49 : decode cX1_lossIn 49 = .ok (.imul, 1) := by decide +kernel
theorem dX1_lossIn_50 : decode cX1_lossIn 50 = .ok (.iadd, 1) := by decide +kernel
theorem dX1_lossIn_51 : decode cX1_lossIn 51 = .ok (.invokestatic 80, 3) := by decide +kernel
theorem dX1_lossIn_54 : decode cX1_lossIn 54 = .ok (.iconst 1, 1) := by decide +kernel
theorem dX1_lossIn_55 : decode cX1_lossIn 55 = .ok (.isub, 1) := by decide +kernel
theorem dX1_lossIn_56 : decode cX1_lossIn 56 = .ok (.istore 6, 2) := by decide +kernel
theorem dX1_lossIn_58 : decode cX1_lossIn 58 = .ok (.aload_n 0, 1) := by decide +kernel
theorem dX1_lossIn_59 : decode cX1_lossIn 59 = .ok (.iload 5, 2) := by decide +kernel
theorem dX1_lossIn_61 : decode cX1_lossIn 61 = .ok (.iconst 1, 1) := by decide +kernel
theorem dX1_lossIn_62 : decode cX1_lossIn 62 = .ok (.invokevirtual 84, 3) := by decide +kernel
theorem dX1_lossIn_65 : decode cX1_lossIn 65 = .ok (.aload_n 0, 1) := by decide +kernel
theorem dX1_lossIn_66 : decode cX1_lossIn 66 = .ok (.iload 6, 2) := by decide +kernel
theorem dX1_lossIn_68 : decode cX1_lossIn 68 = .ok (.iconst 1, 1) := by decide +kernel
theorem dX1_lossIn_69 : decode cX1_lossIn 69 = .ok (.invokevirtual 84, 3) := by decide +kernel
theorem dX1_lossIn_72 : decode cX1_lossIn 72 = .ok (.invokestatic 100, 3) := by decide +kernel
theorem dX1_lossIn_75 : decode cX1_lossIn 75 = .ok (.ireturn, 1) := by decide +kernel
theorem dX1_wakeOf_0 : decode cX1_wakeOf 0 = .ok (.iload_n 0, 1) := by decide +kernel
theorem dX1_wakeOf_1 : decode cX1_wakeOf 1 = .ok (.ifCond .eq 7, 3) := by decide +kernel
theorem dX1_wakeOf_4 : decode cX1_wakeOf 4 = .ok (.iconst 3, 1) := by decide +kernel
theorem dX1_wakeOf_5 : decode cX1_wakeOf 5 = .ok (.goto 4, 3) := by decide +kernel
theorem dX1_wakeOf_8 : decode cX1_wakeOf 8 = .ok (.iconst 0, 1) := by decide +kernel
theorem dX1_wakeOf_9 : decode cX1_wakeOf 9 = .ok (.iload_n 1, 1) := by decide +kernel
theorem dX1_wakeOf_10 : decode cX1_wakeOf 10 = .ok (.ifCond .eq 7, 3) := by decide +kernel
theorem dX1_wakeOf_13 : decode cX1_wakeOf 13 = .ok (.iconst 1, 1) := by decide +kernel
theorem dX1_wakeOf_14 : decode cX1_wakeOf 14 = .ok (.goto 4, 3) := by decide +kernel
theorem dX1_wakeOf_17 : decode cX1_wakeOf 17 = .ok (.iconst 0, 1) := by decide +kernel
theorem dX1_wakeOf_18 : decode cX1_wakeOf 18 = .ok (.iadd, 1) := by decide +kernel
theorem dX1_wakeOf_19 : decode cX1_wakeOf 19 = .ok (.ireturn, 1) := by decide +kernel
theorem dX1_powerAfter_0 : decode cX1_powerAfter 0 = .ok (.iload_n 2, 1) := by decide +kernel
theorem dX1_powerAfter_1 : decode cX1_powerAfter 1 = .ok (.invokestatic 104, 3) := by decide +kernel
theorem dX1_powerAfter_4 : decode cX1_powerAfter 4 = .ok (.iload_n 3, 1) := by decide +kernel
theorem dX1_powerAfter_5 : decode cX1_powerAfter 5 = .ok (.isub, 1) := by decide +kernel
theorem dX1_powerAfter_6 : decode cX1_powerAfter 6 = .ok (.istore 4, 2) := by decide +kernel
theorem dX1_powerAfter_8 : decode cX1_powerAfter 8 = .ok (.iload 4, 2) := by decide +kernel
theorem dX1_powerAfter_10 : decode cX1_powerAfter 10 = .ok (.ifCond .le 26, 3) := by decide +kernel
theorem dX1_powerAfter_13 : decode cX1_powerAfter 13 = .ok (.aload_n 0, 1) := by decide +kernel
theorem dX1_powerAfter_14 : decode cX1_powerAfter 14 = .ok (.iload_n 1, 1) := by decide +kernel
theorem dX1_powerAfter_15 : decode cX1_powerAfter 15 = .ok (.iconst 1, 1) := by decide +kernel
theorem dX1_powerAfter_16 : decode cX1_powerAfter 16 = .ok (.invokevirtual 84, 3) := by decide +kernel
theorem dX1_powerAfter_19 : decode cX1_powerAfter 19 = .ok (.ifCond .eq 17, 3) := by decide +kernel
theorem dX1_powerAfter_22 : decode cX1_powerAfter 22 = .ok (.aload_n 0, 1) := by decide +kernel
theorem dX1_powerAfter_23 : decode cX1_powerAfter 23 = .ok (.getfield 18, 3) := by decide +kernel
theorem dX1_powerAfter_26 : decode cX1_powerAfter 26 = .ok (.iload_n 1, 1) := by decide +kernel
theorem dX1_powerAfter_27 : decode cX1_powerAfter 27 = .ok (.invokestatic 80, 3) := by decide +kernel
theorem dX1_powerAfter_30 : decode cX1_powerAfter 30 = .ok (.iload 4, 2) := by decide +kernel
theorem dX1_powerAfter_32 : decode cX1_powerAfter 32 = .ok (.imul, 1) := by decide +kernel
theorem dX1_powerAfter_33 : decode cX1_powerAfter 33 = .ok (.goto 4, 3) := by decide +kernel
theorem dX1_powerAfter_36 : decode cX1_powerAfter 36 = .ok (.iconst 0, 1) := by decide +kernel
theorem dX1_powerAfter_37 : decode cX1_powerAfter 37 = .ok (.ireturn, 1) := by decide +kernel
theorem dX1_limited_0 : decode cX1_limited 0 = .ok (.aload_n 0, 1) := by decide +kernel
theorem dX1_limited_1 : decode cX1_limited 1 = .ok (.getfield 24, 3) := by decide +kernel
theorem dX1_limited_4 : decode cX1_limited 4 = .ok (.iload_n 1, 1) := by decide +kernel
theorem dX1_limited_5 : decode cX1_limited 5 = .ok (.invokestatic 80, 3) := by decide +kernel
theorem dX1_limited_8 : decode cX1_limited 8 = .ok (.istore_n 3, 1) := by decide +kernel
theorem dX1_limited_9 : decode cX1_limited 9 = .ok (.iload_n 3, 1) := by decide +kernel
theorem dX1_limited_10 : decode cX1_limited 10 = .ok (.iconst (-1), 1) := by decide +kernel
theorem dX1_limited_11 : decode cX1_limited 11 = .ok (.if_icmp .ne 7, 3) := by decide +kernel
theorem dX1_limited_14 : decode cX1_limited 14 = .ok (.iload_n 2, 1) := by decide +kernel
theorem dX1_limited_15 : decode cX1_limited 15 = .ok (.goto 8, 3) := by decide +kernel
theorem dX1_limited_18 : decode cX1_limited 18 = .ok (.iload_n 3, 1) := by decide +kernel
theorem dX1_limited_19 : decode cX1_limited 19 = .ok (.iload_n 2, 1) := by decide +kernel
theorem dX1_limited_20 : decode cX1_limited 20 = .ok (.invokestatic 107, 3) := by decide +kernel
theorem dX1_limited_23 : decode cX1_limited 23 = .ok (.ireturn, 1) := by decide +kernel
theorem dX1_outputIn_0 : decode cX1_outputIn 0 = .ok (.aload_n 0, 1) := by decide +kernel
theorem dX1_outputIn_1 : decode cX1_outputIn 1 = .ok (.iload_n 1, 1) := by decide +kernel
theorem dX1_outputIn_2 : decode cX1_outputIn 2 = .ok (.aload_n 0, 1) := by decide +kernel
theorem dX1_outputIn_3 : decode cX1_outputIn 3 = .ok (.iload_n 1, 1) := by decide +kernel
theorem dX1_outputIn_4 : decode cX1_outputIn 4 = .ok (.iload_n 3, 1) := by decide +kernel
theorem dX1_outputIn_5 : decode cX1_outputIn 5 = .ok (.aload_n 0, 1) := by decide +kernel
theorem dX1_outputIn_6 : decode cX1_outputIn 6 = .ok (.iload_n 1, 1) := by decide +kernel
theorem dX1_outputIn_7 : decode cX1_outputIn 7 = .ok (.iload_n 2, 1) := by decide +kernel
theorem dX1_outputIn_8 : decode cX1_outputIn 8 = .ok (.invokevirtual 112, 3) := by decide +kernel
theorem dX1_outputIn_11 : decode cX1_outputIn 11 = .ok (.invokevirtual 116, 3) := by decide +kernel
theorem dX1_outputIn_14 : decode cX1_outputIn 14 = .ok (.invokevirtual 120, 3) := by decide +kernel
theorem dX1_outputIn_17 : decode cX1_outputIn 17 = .ok (.ireturn, 1) := by decide +kernel
theorem dX1_sumIn_0 : decode cX1_sumIn 0 = .ok (.iconst 0, 1) := by decide +kernel
theorem dX1_sumIn_1 : decode cX1_sumIn 1 = .ok (.istore_n 3, 1) := by decide +kernel
theorem dX1_sumIn_2 : decode cX1_sumIn 2 = .ok (.iconst 0, 1) := by decide +kernel
theorem dX1_sumIn_3 : decode cX1_sumIn 3 = .ok (.istore 4, 2) := by decide +kernel
theorem dX1_sumIn_5 : decode cX1_sumIn 5 = .ok (.iload 4, 2) := by decide +kernel
theorem dX1_sumIn_7 : decode cX1_sumIn 7 = .ok (.aload_n 0, 1) := by decide +kernel
theorem dX1_sumIn_8 : decode cX1_sumIn 8 = .ok (.getfield 51, 3) := by decide +kernel
theorem dX1_sumIn_11 : decode cX1_sumIn 11 = .ok (.if_icmp .ge 20, 3) := by decide +kernel
theorem dX1_sumIn_14 : decode cX1_sumIn 14 = .ok (.iload_n 3, 1) := by decide +kernel
theorem dX1_sumIn_15 : decode cX1_sumIn 15 = .ok (.aload_n 0, 1) := by decide +kernel
theorem dX1_sumIn_16 : decode cX1_sumIn 16 = .ok (.iload 4, 2) := by decide +kernel
theorem dX1_sumIn_18 : decode cX1_sumIn 18 = .ok (.iload_n 1, 1) := by decide +kernel
theorem dX1_sumIn_19 : decode cX1_sumIn 19 = .ok (.iload_n 2, 1) := by decide +kernel
theorem dX1_sumIn_20 : decode cX1_sumIn 20 = .ok (.invokevirtual 123, 3) := by decide +kernel
theorem dX1_sumIn_23 : decode cX1_sumIn 23 = .ok (.iadd, 1) := by decide +kernel
theorem dX1_sumIn_24 : decode cX1_sumIn 24 = .ok (.istore_n 3, 1) := by decide +kernel
theorem dX1_sumIn_25 : decode cX1_sumIn 25 = .ok (.iinc 4 1, 3) := by decide +kernel
theorem dX1_sumIn_28 : decode cX1_sumIn 28 = .ok (.goto (-23), 3) := by decide +kernel
theorem dX1_sumIn_31 : decode cX1_sumIn 31 = .ok (.iload_n 3, 1) := by decide +kernel
theorem dX1_sumIn_32 : decode cX1_sumIn 32 = .ok (.ireturn, 1) := by decide +kernel
theorem dX1_sumByLines_0 : decode cX1_sumByLines 0 = .ok (.aload_n 0, 1) := by decide +kernel
theorem dX1_sumByLines_1 : decode cX1_sumByLines 1 = .ok (.invokevirtual 127, 3) := by decide +kernel
theorem dX1_sumByLines_4 : decode cX1_sumByLines 4 = .ok (.ifCond .eq 8, 3) := by decide +kernel
theorem dX1_sumByLines_7 : decode cX1_sumByLines 7 = .ok (.bipush 6, 2) := by decide +kernel
theorem dX1_sumByLines_9 : decode cX1_sumByLines 9 = .ok (.goto 4, 3) := by decide +kernel
theorem dX1_sumByLines_12 : decode cX1_sumByLines 12 = .ok (.iconst 5, 1) := by decide +kernel
theorem dX1_sumByLines_13 : decode cX1_sumByLines 13 = .ok (.istore_n 1, 1) := by decide +kernel
theorem dX1_sumByLines_14 : decode cX1_sumByLines 14 = .ok (.iconst 0, 1) := by decide +kernel
theorem dX1_sumByLines_15 : decode cX1_sumByLines 15 = .ok (.istore_n 2, 1) := by decide +kernel
theorem dX1_sumByLines_16 : decode cX1_sumByLines 16 = .ok (.iconst 0, 1) := by decide +kernel
theorem dX1_sumByLines_17 : decode cX1_sumByLines 17 = .ok (.istore_n 3, 1) := by decide +kernel
theorem dX1_sumByLines_18 : decode cX1_sumByLines 18 = .ok (.iload_n 3, 1) := by decide +kernel
theorem dX1_sumByLines_19 : decode cX1_sumByLines 19 = .ok (.iload_n 1, 1) := by decide +kernel
theorem dX1_sumByLines_20 : decode cX1_sumByLines 20 = .ok (.if_icmp .ge 17, 3) := by decide +kernel
theorem dX1_sumByLines_23 : decode cX1_sumByLines 23 = .ok (.iload_n 2, 1) := by decide +kernel
theorem dX1_sumByLines_24 : decode cX1_sumByLines 24 = .ok (.aload_n 0, 1) := by decide +kernel
theorem dX1_sumByLines_25 : decode cX1_sumByLines 25 = .ok (.iload_n 3, 1) := by decide +kernel
theorem dX1_sumByLines_26 : decode cX1_sumByLines 26 = .ok (.invokevirtual 131, 3) := by decide +kernel
theorem dX1_sumByLines_29 : decode cX1_sumByLines 29 = .ok (.iadd, 1) := by decide +kernel
theorem dX1_sumByLines_30 : decode cX1_sumByLines 30 = .ok (.istore_n 2, 1) := by decide +kernel
theorem dX1_sumByLines_31 : decode cX1_sumByLines 31 = .ok (.iinc 3 1, 3) := by decide +kernel
theorem dX1_sumByLines_34 : decode cX1_sumByLines 34 = .ok (.goto (-16), 3) := by decide +kernel
theorem dX1_sumByLines_37 : decode cX1_sumByLines 37 = .ok (.iload_n 2, 1) := by decide +kernel
theorem dX1_sumByLines_38 : decode cX1_sumByLines 38 = .ok (.ireturn, 1) := by decide +kernel
theorem dX1_sumOfLine_0 : decode cX1_sumOfLine 0 = .ok (.aload_n 0, 1) := by decide +kernel
theorem dX1_sumOfLine_1 : decode cX1_sumOfLine 1 = .ok (.invokevirtual 127, 3) := by decide +kernel
theorem dX1_sumOfLine_4 : decode cX1_sumOfLine 4 = .ok (.ifCond .eq 7, 3) := by decide +kernel
theorem dX1_sumOfLine_7 : decode cX1_sumOfLine 7 = .ok (.iconst 5, 1) := by decide +kernel
theorem dX1_sumOfLine_8 : decode cX1_sumOfLine 8 = .ok (.goto 5, 3) := by decide +kernel
theorem dX1_sumOfLine_11 : decode cX1_sumOfLine 11 = .ok (.bipush 6, 2) := by decide +kernel
theorem dX1_sumOfLine_13 : decode cX1_sumOfLine 13 = .ok (.istore_n 2, 1) := by decide +kernel
theorem dX1_sumOfLine_14 : decode cX1_sumOfLine 14 = .ok (.iconst 0, 1) := by decide +kernel
theorem dX1_sumOfLine_15 : decode cX1_sumOfLine 15 = .ok (.istore_n 3, 1) := by decide +kernel
theorem dX1_sumOfLine_16 : decode cX1_sumOfLine 16 = .ok (.iconst 0, 1) := by decide +kernel
theorem dX1_sumOfLine_17 : decode cX1_sumOfLine 17 = .ok (.istore 4, 2) := by decide +kernel
theorem dX1_sumOfLine_19 : decode cX1_sumOfLine 19 = .ok (.iconst 0, 1) := by decide +kernel
theorem dX1_sumOfLine_20 : decode cX1_sumOfLine 20 = .ok (.istore 5, 2) := by decide +kernel
theorem dX1_sumOfLine_22 : decode cX1_sumOfLine 22 = .ok (.iconst 0, 1) := by decide +kernel
theorem dX1_sumOfLine_23 : decode cX1_sumOfLine 23 = .ok (.istore 6, 2) := by decide +kernel
theorem dX1_sumOfLine_25 : decode cX1_sumOfLine 25 = .ok (.iload 6, 2) := by decide +kernel
theorem dX1_sumOfLine_27 : decode cX1_sumOfLine 27 = .ok (.iload_n 2, 1) := by decide +kernel
theorem dX1_sumOfLine_28 : decode cX1_sumOfLine 28 = .ok (.if_icmp .ge 60, 3) := by decide +kernel
theorem dX1_sumOfLine_31 : decode cX1_sumOfLine 31 = .ok (.aload_n 0, 1) := by decide +kernel
theorem dX1_sumOfLine_32 : decode cX1_sumOfLine 32 = .ok (.iload_n 1, 1) := by decide +kernel
theorem dX1_sumOfLine_33 : decode cX1_sumOfLine 33 = .ok (.iload 6, 2) := by decide +kernel
theorem dX1_sumOfLine_35 : decode cX1_sumOfLine 35 = .ok (.invokevirtual 134, 3) := by decide +kernel
theorem dX1_sumOfLine_38 : decode cX1_sumOfLine 38 = .ok (.istore 7, 2) := by decide +kernel
theorem dX1_sumOfLine_40 : decode cX1_sumOfLine 40 = .ok (.iload_n 3, 1) := by decide +kernel
theorem dX1_sumOfLine_41 : decode cX1_sumOfLine 41 = .ok (.iload 4, 2) := by decide +kernel
theorem dX1_sumOfLine_43 : decode cX1_sumOfLine 43 = .ok (.invokestatic 100, 3) := by decide +kernel
theorem dX1_sumOfLine_46 : decode cX1_sumOfLine 46 = .ok (.istore 8, 2) := by decide +kernel
theorem dX1_sumOfLine_48 : decode cX1_sumOfLine 48 = .ok (.iload 5, 2) := by decide +kernel
theorem dX1_sumOfLine_50 : decode cX1_sumOfLine 50 = .ok (.aload_n 0, 1) := by decide +kernel
theorem dX1_sumOfLine_51 : decode cX1_sumOfLine 51 = .ok (.iload 7, 2) := by decide +kernel
theorem dX1_sumOfLine_53 : decode cX1_sumOfLine 53 = .ok (.aload_n 0, 1) := by decide +kernel
theorem dX1_sumOfLine_54 : decode cX1_sumOfLine 54 = .ok (.iload 7, 2) := by decide +kernel
theorem dX1_sumOfLine_56 : decode cX1_sumOfLine 56 = .ok (.aload_n 0, 1) := by decide +kernel
theorem dX1_sumOfLine_57 : decode cX1_sumOfLine 57 = .ok (.getfield 54, 3) := by decide +kernel
theorem dX1_sumOfLine_60 : decode cX1_sumOfLine 60 = .ok (.iload 8, 2) := by decide +kernel
theorem dX1_sumOfLine_62 : decode cX1_sumOfLine 62 = .ok (.invokevirtual 116, 3) := by decide +kernel
theorem dX1_sumOfLine_65 : decode cX1_sumOfLine 65 = .ok (.invokevirtual 120, 3) := by decide +kernel
theorem dX1_sumOfLine_68 : decode cX1_sumOfLine 68 = .ok (.iadd, 1) := by decide +kernel
theorem dX1_sumOfLine_69 : decode cX1_sumOfLine 69 = .ok (.istore 5, 2) := by decide +kernel
theorem dX1_sumOfLine_71 : decode cX1_sumOfLine 71 = .ok (.iload_n 3, 1) := by decide +kernel
theorem dX1_sumOfLine_72 : decode cX1_sumOfLine 72 = .ok (.istore 4, 2) := by decide +kernel
theorem dX1_sumOfLine_74 : decode cX1_sumOfLine 74 = .ok (.aload_n 0, 1) := by decide +kernel
theorem dX1_sumOfLine_75 : decode cX1_sumOfLine 75 = .ok (.iload 7, 2) := by decide +kernel
theorem dX1_sumOfLine_77 : decode cX1_sumOfLine 77 = .ok (.iconst 1, 1) := by decide +kernel
theorem dX1_sumOfLine_78 : decode cX1_sumOfLine 78 = .ok (.invokevirtual 84, 3) := by decide +kernel
theorem dX1_sumOfLine_81 : decode cX1_sumOfLine 81 = .ok (.istore_n 3, 1) := by decide +kernel
theorem dX1_sumOfLine_82 : decode cX1_sumOfLine 82 = .ok (.iinc 6 1, 3) := by decide +kernel
theorem dX1_sumOfLine_85 : decode cX1_sumOfLine 85 = .ok (.goto (-60), 3) := by decide +kernel
theorem dX1_sumOfLine_88 : decode cX1_sumOfLine 88 = .ok (.iload 5, 2) := by decide +kernel
theorem dX1_sumOfLine_90 : decode cX1_sumOfLine 90 = .ok (.ireturn, 1) := by decide +kernel
theorem dX1_blowsAlongColumns_0 : decode cX1_blowsAlongColumns 0 = .ok (.aload_n 0, 1) := by decide +kernel
theorem dX1_blowsAlongColumns_1 : decode cX1_blowsAlongColumns 1 = .ok (.getfield 39, 3) := by decide +kernel
theorem dX1_blowsAlongColumns_4 : decode cX1_blowsAlongColumns 4 = .ok (.bipush 78, 2) := by decide +kernel
theorem dX1_blowsAlongColumns_6 : decode cX1_blowsAlongColumns 6 = .ok (.if_icmp .eq 12, 3) := by decide +kernel
theorem dX1_blowsAlongColumns_9 : decode cX1_blowsAlongColumns 9 = .ok (.aload_n 0, 1) := by decide +kernel
theorem dX1_blowsAlongColumns_10 : decode cX1_blowsAlongColumns 10 = .ok (.getfield 39, 3) := by decide +kernel
theorem dX1_blowsAlongColumns_13 : decode cX1_blowsAlongColumns 13 = .ok (.bipush 83, 2) := by decide +kernel
theorem dX1_blowsAlongColumns_15 : decode cX1_blowsAlongColumns 15 = .ok (.if_icmp .ne 7, 3) := by decide +kernel
theorem dX1_blowsAlongColumns_18 : decode cX1_blowsAlongColumns 18 = .ok (.iconst 1, 1) := by decide +kernel
theorem dX1_blowsAlongColumns_19 : decode cX1_blowsAlongColumns 19 = .ok (.goto 4, 3) := by decide +kernel
theorem dX1_blowsAlongColumns_22 : decode cX1_blowsAlongColumns 22 = .ok (.iconst 0, 1) := by decide +kernel
theorem dX1_blowsAlongColumns_23 : decode cX1_blowsAlongColumns 23 = .ok (.ireturn, 1) := by decide +kernel
theorem dX1_turbineInLine_0 : decode cX1_turbineInLine 0 = .ok (.aload_n 0, 1) := by decide +kernel
theorem dX1_turbineInLine_1 : decode cX1_turbineInLine 1 = .ok (.getfield 39, 3) := by decide +kernel
theorem dX1_turbineInLine_4 : decode cX1_turbineInLine 4 = .ok (.lookupswitch 61 #[(69, 43), (78, 36), (83, 52)], 36) := by decide +kernel
theorem dX1_turbineInLine_40 : decode cX1_turbineInLine 40 = .ok (.aload_n 0, 1) := by decide +kernel
theorem dX1_turbineInLine_41 : decode cX1_turbineInLine 41 = .ok (.iload_n 2, 1) := by decide +kernel
theorem dX1_turbineInLine_42 : decode cX1_turbineInLine 42 = .ok (.iload_n 1, 1) := by decide +kernel
theorem dX1_turbineInLine_43 : decode cX1_turbineInLine 43 = .ok (.invokevirtual 137, 3) := by decide +kernel
theorem dX1_turbineInLine_46 : decode cX1_turbineInLine 46 = .ok (.ireturn, 1) := by decide +kernel
theorem dX1_turbineInLine_47 : decode cX1_turbineInLine 47 = .ok (.aload_n 0, 1) := by decide +kernel
theorem dX1_turbineInLine_48 : decode cX1_turbineInLine 48 = .ok (.iload_n 1, 1) := by decide +kernel
theorem dX1_turbineInLine_49 : decode cX1_turbineInLine 49 = .ok (.iconst 5, 1) := by decide +kernel
theorem dX1_turbineInLine_50 : decode cX1_turbineInLine 50 = .ok (.iload_n 2, 1) := by decide +kernel
theorem dX1_turbineInLine_51 : decode cX1_turbineInLine 51 = .ok (.isub, 1) := by decide +kernel
theorem dX1_turbineInLine_52 : decode cX1_turbineInLine 52 = .ok (.invokevirtual 137, 3) := by decide +kernel
theorem dX1_turbineInLine_55 : decode cX1_turbineInLine 55 = .ok (.ireturn, 1) := by decide +kernel
theorem dX1_turbineInLine_56 : decode cX1_turbineInLine 56 = .ok (.aload_n 0, 1) := by decide +kernel
theorem dX1_turbineInLine_57 : decode cX1_turbineInLine 57 = .ok (.iconst 4, 1) := by decide +kernel
theorem dX1_turbineInLine_58 : decode cX1_turbineInLine 58 = .ok (.iload_n 2, 1) := by decide +kernel
theorem dX1_turbineInLine_59 : decode cX1_turbineInLine 59 = .ok (.isub, 1) := by decide +kernel
theorem dX1_turbineInLine_60 : decode cX1_turbineInLine 60 = .ok (.iload_n 1, 1) := by decide +kernel
theorem dX1_turbineInLine_61 : decode cX1_turbineInLine 61 = .ok (.invokevirtual 137, 3) := by decide +kernel
theorem dX1_turbineInLine_64 : decode cX1_turbineInLine 64 = .ok (.ireturn, 1) := by decide +kernel
theorem dX1_turbineInLine_65 : decode cX1_turbineInLine 65 = .ok (.aload_n 0, 1) := by decide +kernel
theorem dX1_turbineInLine_66 : decode cX1_turbineInLine 66 = .ok (.iload_n 1, 1) := by decide +kernel
theorem dX1_turbineInLine_67 : decode cX1_turbineInLine 67 = .ok (.iload_n 2, 1) := by decide +kernel
theorem dX1_turbineInLine_68 : decode cX1_turbineInLine 68 = .ok (.invokevirtual 137, 3) := by decide +kernel
theorem dX1_turbineInLine_71 : decode cX1_turbineInLine 71 = .ok (.ireturn, 1) := by decide +kernel
theorem dX1_turbinesAheadOf_0 : decode cX1_turbinesAheadOf 0 = .ok (.iconst 0, 1) := by decide +kernel
theorem dX1_turbinesAheadOf_1 : decode cX1_turbinesAheadOf 1 = .ok (.istore_n 2, 1) := by decide +kernel
theorem dX1_turbinesAheadOf_2 : decode cX1_turbinesAheadOf 2 = .ok (.iconst 0, 1) := by decide +kernel
theorem dX1_turbinesAheadOf_3 : decode cX1_turbinesAheadOf 3 = .ok (.istore_n 3, 1) := by decide +kernel
theorem dX1_turbinesAheadOf_4 : decode cX1_turbinesAheadOf 4 = .ok (.iload_n 3, 1) := by decide +kernel
theorem dX1_turbinesAheadOf_5 : decode cX1_turbinesAheadOf 5 = .ok (.aload_n 0, 1) := by decide +kernel
theorem dX1_turbinesAheadOf_6 : decode cX1_turbinesAheadOf 6 = .ok (.getfield 51, 3) := by decide +kernel
theorem dX1_turbinesAheadOf_9 : decode cX1_turbinesAheadOf 9 = .ok (.if_icmp .ge 21, 3) := by decide +kernel
theorem dX1_turbinesAheadOf_12 : decode cX1_turbinesAheadOf 12 = .ok (.aload_n 0, 1) := by decide +kernel
theorem dX1_turbinesAheadOf_13 : decode cX1_turbinesAheadOf 13 = .ok (.iload_n 3, 1) := by decide +kernel
theorem dX1_turbinesAheadOf_14 : decode cX1_turbinesAheadOf 14 = .ok (.iload_n 1, 1) := by decide +kernel
theorem dX1_turbinesAheadOf_15 : decode cX1_turbinesAheadOf 15 = .ok (.invokevirtual 140, 3) := by decide +kernel
theorem dX1_turbinesAheadOf_18 : decode cX1_turbinesAheadOf 18 = .ok (.ifCond .eq 6, 3) := by decide +kernel
theorem dX1_turbinesAheadOf_21 : decode cX1_turbinesAheadOf 21 = .ok (.iinc 2 1, 3) := by decide +kernel
theorem dX1_turbinesAheadOf_24 : decode cX1_turbinesAheadOf 24 = .ok (.iinc 3 1, 3) := by decide +kernel
theorem dX1_turbinesAheadOf_27 : decode cX1_turbinesAheadOf 27 = .ok (.goto (-23), 3) := by decide +kernel
theorem dX1_turbinesAheadOf_30 : decode cX1_turbinesAheadOf 30 = .ok (.iload_n 2, 1) := by decide +kernel
theorem dX1_turbinesAheadOf_31 : decode cX1_turbinesAheadOf 31 = .ok (.ireturn, 1) := by decide +kernel
theorem dX1_isTurbineAhead_0 : decode cX1_isTurbineAhead 0 = .ok (.aload_n 0, 1) := by decide +kernel
theorem dX1_isTurbineAhead_1 : decode cX1_isTurbineAhead 1 = .ok (.iload_n 1, 1) := by decide +kernel
theorem dX1_isTurbineAhead_2 : decode cX1_isTurbineAhead 2 = .ok (.aload_n 0, 1) := by decide +kernel
theorem dX1_isTurbineAhead_3 : decode cX1_isTurbineAhead 3 = .ok (.getfield 39, 3) := by decide +kernel
theorem dX1_isTurbineAhead_6 : decode cX1_isTurbineAhead 6 = .ok (.aload_n 0, 1) := by decide +kernel
theorem dX1_isTurbineAhead_7 : decode cX1_isTurbineAhead 7 = .ok (.getfield 54, 3) := by decide +kernel
theorem dX1_isTurbineAhead_10 : decode cX1_isTurbineAhead 10 = .ok (.invokevirtual 123, 3) := by decide +kernel
theorem dX1_isTurbineAhead_13 : decode cX1_isTurbineAhead 13 = .ok (.aload_n 0, 1) := by decide +kernel
theorem dX1_isTurbineAhead_14 : decode cX1_isTurbineAhead 14 = .ok (.iload_n 2, 1) := by decide +kernel
theorem dX1_isTurbineAhead_15 : decode cX1_isTurbineAhead 15 = .ok (.aload_n 0, 1) := by decide +kernel
theorem dX1_isTurbineAhead_16 : decode cX1_isTurbineAhead 16 = .ok (.getfield 39, 3) := by decide +kernel
theorem dX1_isTurbineAhead_19 : decode cX1_isTurbineAhead 19 = .ok (.aload_n 0, 1) := by decide +kernel
theorem dX1_isTurbineAhead_20 : decode cX1_isTurbineAhead 20 = .ok (.getfield 54, 3) := by decide +kernel
theorem dX1_isTurbineAhead_23 : decode cX1_isTurbineAhead 23 = .ok (.invokevirtual 123, 3) := by decide +kernel
theorem dX1_isTurbineAhead_26 : decode cX1_isTurbineAhead 26 = .ok (.isub, 1) := by decide +kernel
theorem dX1_isTurbineAhead_27 : decode cX1_isTurbineAhead 27 = .ok (.istore_n 3, 1) := by decide +kernel
theorem dX1_isTurbineAhead_28 : decode cX1_isTurbineAhead 28 = .ok (.iload_n 3, 1) := by decide +kernel
theorem dX1_isTurbineAhead_29 : decode cX1_isTurbineAhead 29 = .ok (.ifCond .ne 21, 3) := by decide +kernel
theorem dX1_isTurbineAhead_32 : decode cX1_isTurbineAhead 32 = .ok (.aload_n 0, 1) := by decide +kernel
theorem dX1_isTurbineAhead_33 : decode cX1_isTurbineAhead 33 = .ok (.getfield 18, 3) := by decide +kernel
theorem dX1_isTurbineAhead_36 : decode cX1_isTurbineAhead 36 = .ok (.iload_n 1, 1) := by decide +kernel
theorem dX1_isTurbineAhead_37 : decode cX1_isTurbineAhead 37 = .ok (.invokestatic 80, 3) := by decide +kernel
theorem dX1_isTurbineAhead_40 : decode cX1_isTurbineAhead 40 = .ok (.aload_n 0, 1) := by decide +kernel
theorem dX1_isTurbineAhead_41 : decode cX1_isTurbineAhead 41 = .ok (.getfield 18, 3) := by decide +kernel
theorem dX1_isTurbineAhead_44 : decode cX1_isTurbineAhead 44 = .ok (.iload_n 2, 1) := by decide +kernel
theorem dX1_isTurbineAhead_45 : decode cX1_isTurbineAhead 45 = .ok (.invokestatic 80, 3) := by decide +kernel
theorem dX1_isTurbineAhead_48 : decode cX1_isTurbineAhead 48 = .ok (.isub, 1) := by decide +kernel
theorem dX1_isTurbineAhead_49 : decode cX1_isTurbineAhead 49 = .ok (.istore_n 3, 1) := by decide +kernel
theorem dX1_isTurbineAhead_50 : decode cX1_isTurbineAhead 50 = .ok (.iload_n 3, 1) := by decide +kernel
theorem dX1_isTurbineAhead_51 : decode cX1_isTurbineAhead 51 = .ok (.ifCond .ne 16, 3) := by decide +kernel
theorem dX1_isTurbineAhead_54 : decode cX1_isTurbineAhead 54 = .ok (.iload_n 1, 1) := by decide +kernel
theorem dX1_isTurbineAhead_55 : decode cX1_isTurbineAhead 55 = .ok (.iload_n 2, 1) := by decide +kernel
theorem dX1_isTurbineAhead_56 : decode cX1_isTurbineAhead 56 = .ok (.if_icmp .ge 7, 3) := by decide +kernel
theorem dX1_isTurbineAhead_59 : decode cX1_isTurbineAhead 59 = .ok (.iconst 1, 1) := by decide +kernel
theorem dX1_isTurbineAhead_60 : decode cX1_isTurbineAhead 60 = .ok (.goto 16, 3) := by decide +kernel
theorem dX1_isTurbineAhead_63 : decode cX1_isTurbineAhead 63 = .ok (.iconst 0, 1) := by decide +kernel
theorem dX1_isTurbineAhead_64 : decode cX1_isTurbineAhead 64 = .ok (.goto 12, 3) := by decide +kernel
theorem dX1_isTurbineAhead_67 : decode cX1_isTurbineAhead 67 = .ok (.iload_n 3, 1) := by decide +kernel
theorem dX1_isTurbineAhead_68 : decode cX1_isTurbineAhead 68 = .ok (.ifCond .le 7, 3) := by decide +kernel
theorem dX1_isTurbineAhead_71 : decode cX1_isTurbineAhead 71 = .ok (.iconst 1, 1) := by decide +kernel
theorem dX1_isTurbineAhead_72 : decode cX1_isTurbineAhead 72 = .ok (.goto 4, 3) := by decide +kernel
theorem dX1_isTurbineAhead_75 : decode cX1_isTurbineAhead 75 = .ok (.iconst 0, 1) := by decide +kernel
theorem dX1_isTurbineAhead_76 : decode cX1_isTurbineAhead 76 = .ok (.ireturn, 1) := by decide +kernel
theorem dX1_bidsAheadOf_0 : decode cX1_bidsAheadOf 0 = .ok (.iconst 0, 1) := by decide +kernel
theorem dX1_bidsAheadOf_1 : decode cX1_bidsAheadOf 1 = .ok (.istore_n 2, 1) := by decide +kernel
theorem dX1_bidsAheadOf_2 : decode cX1_bidsAheadOf 2 = .ok (.iconst 0, 1) := by decide +kernel
theorem dX1_bidsAheadOf_3 : decode cX1_bidsAheadOf 3 = .ok (.istore_n 3, 1) := by decide +kernel
theorem dX1_bidsAheadOf_4 : decode cX1_bidsAheadOf 4 = .ok (.iload_n 3, 1) := by decide +kernel
theorem dX1_bidsAheadOf_5 : decode cX1_bidsAheadOf 5 = .ok (.bipush 24, 2) := by decide +kernel
theorem dX1_bidsAheadOf_7 : decode cX1_bidsAheadOf 7 = .ok (.if_icmp .ge 29, 3) := by decide +kernel
theorem dX1_bidsAheadOf_10 : decode cX1_bidsAheadOf 10 = .ok (.aload_n 0, 1) := by decide +kernel
theorem dX1_bidsAheadOf_11 : decode cX1_bidsAheadOf 11 = .ok (.iload_n 3, 1) := by decide +kernel
theorem dX1_bidsAheadOf_12 : decode cX1_bidsAheadOf 12 = .ok (.invokevirtual 92, 3) := by decide +kernel
theorem dX1_bidsAheadOf_15 : decode cX1_bidsAheadOf 15 = .ok (.ifCond .eq 15, 3) := by decide +kernel
theorem dX1_bidsAheadOf_18 : decode cX1_bidsAheadOf 18 = .ok (.aload_n 0, 1) := by decide +kernel
theorem dX1_bidsAheadOf_19 : decode cX1_bidsAheadOf 19 = .ok (.iload_n 3, 1) := by decide +kernel
theorem dX1_bidsAheadOf_20 : decode cX1_bidsAheadOf 20 = .ok (.iload_n 1, 1) := by decide +kernel
theorem dX1_bidsAheadOf_21 : decode cX1_bidsAheadOf 21 = .ok (.invokevirtual 143, 3) := by decide +kernel
theorem dX1_bidsAheadOf_24 : decode cX1_bidsAheadOf 24 = .ok (.ifCond .eq 6, 3) := by decide +kernel
theorem dX1_bidsAheadOf_27 : decode cX1_bidsAheadOf 27 = .ok (.iinc 2 1, 3) := by decide +kernel
theorem dX1_bidsAheadOf_30 : decode cX1_bidsAheadOf 30 = .ok (.iinc 3 1, 3) := by decide +kernel
theorem dX1_bidsAheadOf_33 : decode cX1_bidsAheadOf 33 = .ok (.goto (-29), 3) := by decide +kernel
theorem dX1_bidsAheadOf_36 : decode cX1_bidsAheadOf 36 = .ok (.iload_n 2, 1) := by decide +kernel
theorem dX1_bidsAheadOf_37 : decode cX1_bidsAheadOf 37 = .ok (.ireturn, 1) := by decide +kernel
theorem dX1_isBidAhead_0 : decode cX1_isBidAhead 0 = .ok (.aload_n 0, 1) := by decide +kernel
theorem dX1_isBidAhead_1 : decode cX1_isBidAhead 1 = .ok (.getfield 33, 3) := by decide +kernel
theorem dX1_isBidAhead_4 : decode cX1_isBidAhead 4 = .ok (.iload_n 1, 1) := by decide +kernel
theorem dX1_isBidAhead_5 : decode cX1_isBidAhead 5 = .ok (.invokestatic 80, 3) := by decide +kernel
theorem dX1_isBidAhead_8 : decode cX1_isBidAhead 8 = .ok (.aload_n 0, 1) := by decide +kernel
theorem dX1_isBidAhead_9 : decode cX1_isBidAhead 9 = .ok (.getfield 33, 3) := by decide +kernel
theorem dX1_isBidAhead_12 : decode cX1_isBidAhead 12 = .ok (.iload_n 2, 1) := by decide +kernel
theorem dX1_isBidAhead_13 : decode cX1_isBidAhead 13 = .ok (.invokestatic 80, 3) := by decide +kernel
theorem dX1_isBidAhead_16 : decode cX1_isBidAhead 16 = .ok (.isub, 1) := by decide +kernel
theorem dX1_isBidAhead_17 : decode cX1_isBidAhead 17 = .ok (.istore_n 3, 1) := by decide +kernel
theorem dX1_isBidAhead_18 : decode cX1_isBidAhead 18 = .ok (.iload_n 3, 1) := by decide +kernel
theorem dX1_isBidAhead_19 : decode cX1_isBidAhead 19 = .ok (.ifCond .ne 21, 3) := by decide +kernel
theorem dX1_isBidAhead_22 : decode cX1_isBidAhead 22 = .ok (.aload_n 0, 1) := by decide +kernel
theorem dX1_isBidAhead_23 : decode cX1_isBidAhead 23 = .ok (.getfield 36, 3) := by decide +kernel
theorem dX1_isBidAhead_26 : decode cX1_isBidAhead 26 = .ok (.iload_n 1, 1) := by decide +kernel
theorem dX1_isBidAhead_27 : decode cX1_isBidAhead 27 = .ok (.invokestatic 80, 3) := by decide +kernel
theorem dX1_isBidAhead_30 : decode cX1_isBidAhead 30 = .ok (.aload_n 0, 1) := by decide +kernel
theorem dX1_isBidAhead_31 : decode cX1_isBidAhead 31 = .ok (.getfield 36, 3) := by decide +kernel
theorem dX1_isBidAhead_34 : decode cX1_isBidAhead 34 = .ok (.iload_n 2, 1) := by decide +kernel
theorem dX1_isBidAhead_35 : decode cX1_isBidAhead 35 = .ok (.invokestatic 80, 3) := by decide +kernel
theorem dX1_isBidAhead_38 : decode cX1_isBidAhead 38 = .ok (.isub, 1) := by decide +kernel
theorem dX1_isBidAhead_39 : decode cX1_isBidAhead 39 = .ok (.istore_n 3, 1) := by decide +kernel
theorem dX1_isBidAhead_40 : decode cX1_isBidAhead 40 = .ok (.iload_n 3, 1) := by decide +kernel
theorem dX1_isBidAhead_41 : decode cX1_isBidAhead 41 = .ok (.ifCond .ne 16, 3) := by decide +kernel
theorem dX1_isBidAhead_44 : decode cX1_isBidAhead 44 = .ok (.iload_n 1, 1) := by decide +kernel
theorem dX1_isBidAhead_45 : decode cX1_isBidAhead 45 = .ok (.iload_n 2, 1) := by decide +kernel
theorem dX1_isBidAhead_46 : decode cX1_isBidAhead 46 = .ok (.if_icmp .ge 7, 3) := by decide +kernel
theorem dX1_isBidAhead_49 : decode cX1_isBidAhead 49 = .ok (.iconst 1, 1) := by decide +kernel
theorem dX1_isBidAhead_50 : decode cX1_isBidAhead 50 = .ok (.goto 16, 3) := by decide +kernel
theorem dX1_isBidAhead_53 : decode cX1_isBidAhead 53 = .ok (.iconst 0, 1) := by decide +kernel
theorem dX1_isBidAhead_54 : decode cX1_isBidAhead 54 = .ok (.goto 12, 3) := by decide +kernel
theorem dX1_isBidAhead_57 : decode cX1_isBidAhead 57 = .ok (.iload_n 3, 1) := by decide +kernel
theorem dX1_isBidAhead_58 : decode cX1_isBidAhead 58 = .ok (.ifCond .le 7, 3) := by decide +kernel
theorem dX1_isBidAhead_61 : decode cX1_isBidAhead 61 = .ok (.iconst 1, 1) := by decide +kernel
theorem dX1_isBidAhead_62 : decode cX1_isBidAhead 62 = .ok (.goto 4, 3) := by decide +kernel
theorem dX1_isBidAhead_65 : decode cX1_isBidAhead 65 = .ok (.iconst 0, 1) := by decide +kernel
theorem dX1_isBidAhead_66 : decode cX1_isBidAhead 66 = .ok (.ireturn, 1) := by decide +kernel
theorem dX1_judge_0 : decode cX1_judge 0 = .ok (.iload_n 1, 1) := by decide +kernel
theorem dX1_judge_1 : decode cX1_judge 1 = .ok (.tableswitch 207 97 119 #[107, 136, 116, 207, 207, 116, 172, 207, 207, 207, 207, 207, 207, 207, 207, 207, 136, 116, 116, 190, 116, 207, 157], 107) := by decide +kernel
theorem dX1_judge_108 : decode cX1_judge 108 = .ok (.aload_n 0, 1) := by decide +kernel
theorem dX1_judge_109 : decode cX1_judge 109 = .ok (.iload_n 2, 1) := by decide +kernel
theorem dX1_judge_110 : decode cX1_judge 110 = .ok (.iload_n 3, 1) := by decide +kernel
theorem dX1_judge_111 : decode cX1_judge 111 = .ok (.iload 4, 2) := by decide +kernel
theorem dX1_judge_113 : decode cX1_judge 113 = .ok (.invokevirtual 146, 3) := by decide +kernel
theorem dX1_judge_116 : decode cX1_judge 116 = .ok (.ireturn, 1) := by decide +kernel
theorem dX1_judge_117 : decode cX1_judge 117 = .ok (.aload_n 0, 1) := by decide +kernel
theorem dX1_judge_118 : decode cX1_judge 118 = .ok (.iload_n 2, 1) := by decide +kernel
theorem dX1_judge_119 : decode cX1_judge 119 = .ok (.invokevirtual 149, 3) := by decide +kernel
theorem dX1_judge_122 : decode cX1_judge 122 = .ok (.ifCond .eq 13, 3) := by decide +kernel
theorem dX1_judge_125 : decode cX1_judge 125 = .ok (.aload_n 0, 1) := by decide +kernel
theorem dX1_judge_126 : decode cX1_judge 126 = .ok (.iload_n 1, 1) := by decide +kernel
theorem dX1_judge_127 : decode cX1_judge 127 = .ok (.iload_n 2, 1) := by decide +kernel
theorem dX1_judge_128 : decode cX1_judge 128 = .ok (.iload_n 3, 1) := by decide +kernel
theorem dX1_judge_129 : decode cX1_judge 129 = .ok (.invokevirtual 152, 3) := by decide +kernel
theorem dX1_judge_132 : decode cX1_judge 132 = .ok (.goto 4, 3) := by decide +kernel
theorem dX1_judge_135 : decode cX1_judge 135 = .ok (.iconst (-1), 1) := by decide +kernel
theorem dX1_judge_136 : decode cX1_judge 136 = .ok (.ireturn, 1) := by decide +kernel
theorem dX1_judge_137 : decode cX1_judge 137 = .ok (.iload_n 2, 1) := by decide +kernel
theorem dX1_judge_138 : decode cX1_judge 138 = .ok (.invokestatic 156, 3) := by decide +kernel
theorem dX1_judge_141 : decode cX1_judge 141 = .ok (.ifCond .eq 15, 3) := by decide +kernel
theorem dX1_judge_144 : decode cX1_judge 144 = .ok (.aload_n 0, 1) := by decide +kernel
theorem dX1_judge_145 : decode cX1_judge 145 = .ok (.iload_n 1, 1) := by decide +kernel
theorem dX1_judge_146 : decode cX1_judge 146 = .ok (.iload_n 2, 1) := by decide +kernel
theorem dX1_judge_147 : decode cX1_judge 147 = .ok (.iload_n 3, 1) := by decide +kernel
theorem dX1_judge_148 : decode cX1_judge 148 = .ok (.iload 4, 2) := by decide +kernel
theorem dX1_judge_150 : decode cX1_judge 150 = .ok (.invokevirtual 159, 3) := by decide +kernel
theorem dX1_judge_153 : decode cX1_judge 153 = .ok (.goto 4, 3) := by decide +kernel
theorem dX1_judge_156 : decode cX1_judge 156 = .ok (.iconst (-1), 1) := by decide +kernel
theorem dX1_judge_157 : decode cX1_judge 157 = .ok (.ireturn, 1) := by decide +kernel
theorem dX1_judge_158 : decode cX1_judge 158 = .ok (.iload_n 2, 1) := by decide +kernel
theorem dX1_judge_159 : decode cX1_judge 159 = .ok (.iload_n 3, 1) := by decide +kernel
theorem dX1_judge_160 : decode cX1_judge 160 = .ok (.invokestatic 163, 3) := by decide +kernel
theorem dX1_judge_163 : decode cX1_judge 163 = .ok (.ifCond .eq 7, 3) := by decide +kernel
theorem dX1_judge_166 : decode cX1_judge 166 = .ok (.iconst 0, 1) := by decide +kernel
theorem dX1_judge_167 : decode cX1_judge 167 = .ok (.goto 5, 3) := by decide +kernel
theorem dX1_judge_170 : decode cX1_judge 170 = .ok (.bipush (-2), 2) := by decide +kernel
theorem dX1_judge_172 : decode cX1_judge 172 = .ok (.ireturn, 1) := by decide +kernel
theorem dX1_judge_173 : decode cX1_judge 173 = .ok (.iload_n 2, 1) := by decide +kernel
theorem dX1_judge_174 : decode cX1_judge 174 = .ok (.iconst 0, 1) := by decide +kernel
theorem dX1_judge_175 : decode cX1_judge 175 = .ok (.sipush 999, 3) := by decide +kernel
theorem dX1_judge_178 : decode cX1_judge 178 = .ok (.invokestatic 166, 3) := by decide +kernel
theorem dX1_judge_181 : decode cX1_judge 181 = .ok (.ifCond .eq 7, 3) := by decide +kernel
theorem dX1_judge_184 : decode cX1_judge 184 = .ok (.iconst 0, 1) := by decide +kernel
theorem dX1_judge_185 : decode cX1_judge 185 = .ok (.goto 5, 3) := by decide +kernel
theorem dX1_judge_188 : decode cX1_judge 188 = .ok (.bipush (-2), 2) := by decide +kernel
theorem dX1_judge_190 : decode cX1_judge 190 = .ok (.ireturn, 1) := by decide +kernel
theorem dX1_judge_191 : decode cX1_judge 191 = .ok (.iload_n 2, 1) := by decide +kernel
theorem dX1_judge_192 : decode cX1_judge 192 = .ok (.iconst 1, 1) := by decide +kernel
theorem dX1_judge_193 : decode cX1_judge 193 = .ok (.bipush 48, 2) := by decide +kernel
theorem dX1_judge_195 : decode cX1_judge 195 = .ok (.invokestatic 166, 3) := by decide +kernel
theorem dX1_judge_198 : decode cX1_judge 198 = .ok (.ifCond .eq 7, 3) := by decide +kernel
theorem dX1_judge_201 : decode cX1_judge 201 = .ok (.iconst 0, 1) := by decide +kernel
theorem dX1_judge_202 : decode cX1_judge 202 = .ok (.goto 5, 3) := by decide +kernel
theorem dX1_judge_205 : decode cX1_judge 205 = .ok (.bipush (-2), 2) := by decide +kernel
theorem dX1_judge_207 : decode cX1_judge 207 = .ok (.ireturn, 1) := by decide +kernel
theorem dX1_judge_208 : decode cX1_judge 208 = .ok (.iconst 0, 1) := by decide +kernel
theorem dX1_judge_209 : decode cX1_judge 209 = .ok (.ireturn, 1) := by decide +kernel
theorem dX1_judgeAdding_0 : decode cX1_judgeAdding 0 = .ok (.iload_n 1, 1) := by decide +kernel
theorem dX1_judgeAdding_1 : decode cX1_judgeAdding 1 = .ok (.iload_n 2, 1) := by decide +kernel
theorem dX1_judgeAdding_2 : decode cX1_judgeAdding 2 = .ok (.invokestatic 170, 3) := by decide +kernel
theorem dX1_judgeAdding_5 : decode cX1_judgeAdding 5 = .ok (.ifCond .ne 5, 3) := by decide +kernel
theorem dX1_judgeAdding_8 : decode cX1_judgeAdding 8 = .ok (.iconst (-1), 1) := by decide +kernel
theorem dX1_judgeAdding_9 : decode cX1_judgeAdding 9 = .ok (.ireturn, 1) := by decide +kernel
theorem dX1_judgeAdding_10 : decode cX1_judgeAdding 10 = .ok (.iload_n 3, 1) := by decide +kernel
theorem dX1_judgeAdding_11 : decode cX1_judgeAdding 11 = .ok (.iconst 1, 1) := by decide +kernel
theorem dX1_judgeAdding_12 : decode cX1_judgeAdding 12 = .ok (.bipush 9, 2) := by decide +kernel
theorem dX1_judgeAdding_14 : decode cX1_judgeAdding 14 = .ok (.invokestatic 166, 3) := by decide +kernel
theorem dX1_judgeAdding_17 : decode cX1_judgeAdding 17 = .ok (.ifCond .ne 6, 3) := by decide +kernel
theorem dX1_judgeAdding_20 : decode cX1_judgeAdding 20 = .ok (.bipush (-2), 2) := by decide +kernel
theorem dX1_judgeAdding_22 : decode cX1_judgeAdding 22 = .ok (.ireturn, 1) := by decide +kernel
theorem dX1_judgeAdding_23 : decode cX1_judgeAdding 23 = .ok (.aload_n 0, 1) := by decide +kernel
theorem dX1_judgeAdding_24 : decode cX1_judgeAdding 24 = .ok (.getfield 51, 3) := by decide +kernel
theorem dX1_judgeAdding_27 : decode cX1_judgeAdding 27 = .ok (.bipush 12, 2) := by decide +kernel
theorem dX1_judgeAdding_29 : decode cX1_judgeAdding 29 = .ok (.if_icmp .lt 5, 3) := by decide +kernel
theorem dX1_judgeAdding_32 : decode cX1_judgeAdding 32 = .ok (.iconst 1, 1) := by decide +kernel
theorem dX1_judgeAdding_33 : decode cX1_judgeAdding 33 = .ok (.ireturn, 1) := by decide +kernel
theorem dX1_judgeAdding_34 : decode cX1_judgeAdding 34 = .ok (.aload_n 0, 1) := by decide +kernel
theorem dX1_judgeAdding_35 : decode cX1_judgeAdding 35 = .ok (.iload_n 1, 1) := by decide +kernel
theorem dX1_judgeAdding_36 : decode cX1_judgeAdding 36 = .ok (.iload_n 2, 1) := by decide +kernel
theorem dX1_judgeAdding_37 : decode cX1_judgeAdding 37 = .ok (.invokevirtual 137, 3) := by decide +kernel
theorem dX1_judgeAdding_40 : decode cX1_judgeAdding 40 = .ok (.ifCond .lt 7, 3) := by decide +kernel
theorem dX1_judgeAdding_43 : decode cX1_judgeAdding 43 = .ok (.iconst 2, 1) := by decide +kernel
theorem dX1_judgeAdding_44 : decode cX1_judgeAdding 44 = .ok (.goto 4, 3) := by decide +kernel
theorem dX1_judgeAdding_47 : decode cX1_judgeAdding 47 = .ok (.iconst 0, 1) := by decide +kernel
theorem dX1_judgeAdding_48 : decode cX1_judgeAdding 48 = .ok (.ireturn, 1) := by decide +kernel
theorem dX1_judgeTurbine_0 : decode cX1_judgeTurbine 0 = .ok (.aload_n 0, 1) := by decide +kernel
theorem dX1_judgeTurbine_1 : decode cX1_judgeTurbine 1 = .ok (.iload_n 2, 1) := by decide +kernel
theorem dX1_judgeTurbine_2 : decode cX1_judgeTurbine 2 = .ok (.iconst 1, 1) := by decide +kernel
theorem dX1_judgeTurbine_3 : decode cX1_judgeTurbine 3 = .ok (.invokevirtual 84, 3) := by decide +kernel
theorem dX1_judgeTurbine_6 : decode cX1_judgeTurbine 6 = .ok (.istore 4, 2) := by decide +kernel
theorem dX1_judgeTurbine_8 : decode cX1_judgeTurbine 8 = .ok (.iload_n 1, 1) := by decide +kernel
theorem dX1_judgeTurbine_9 : decode cX1_judgeTurbine 9 = .ok (.lookupswitch 112 #[(99, 66), (114, 50), (115, 43), (117, 90)], 43) := by decide +kernel
theorem dX1_judgeTurbine_52 : decode cX1_judgeTurbine 52 = .ok (.aload_n 0, 1) := by decide +kernel
theorem dX1_judgeTurbine_53 : decode cX1_judgeTurbine 53 = .ok (.iload_n 2, 1) := by decide +kernel
theorem dX1_judgeTurbine_54 : decode cX1_judgeTurbine 54 = .ok (.iload_n 3, 1) := by decide +kernel
theorem dX1_judgeTurbine_55 : decode cX1_judgeTurbine 55 = .ok (.invokevirtual 173, 3) := by decide +kernel
theorem dX1_judgeTurbine_58 : decode cX1_judgeTurbine 58 = .ok (.ireturn, 1) := by decide +kernel
theorem dX1_judgeTurbine_59 : decode cX1_judgeTurbine 59 = .ok (.aload_n 0, 1) := by decide +kernel
theorem dX1_judgeTurbine_60 : decode cX1_judgeTurbine 60 = .ok (.iload_n 2, 1) := by decide +kernel
theorem dX1_judgeTurbine_61 : decode cX1_judgeTurbine 61 = .ok (.iconst 3, 1) := by decide +kernel
theorem dX1_judgeTurbine_62 : decode cX1_judgeTurbine 62 = .ok (.invokevirtual 84, 3) := by decide +kernel
theorem dX1_judgeTurbine_65 : decode cX1_judgeTurbine 65 = .ok (.ifCond .eq 7, 3) := by decide +kernel
theorem dX1_judgeTurbine_68 : decode cX1_judgeTurbine 68 = .ok (.iconst 0, 1) := by decide +kernel
theorem dX1_judgeTurbine_69 : decode cX1_judgeTurbine 69 = .ok (.goto 5, 3) := by decide +kernel
theorem dX1_judgeTurbine_72 : decode cX1_judgeTurbine 72 = .ok (.bipush 6, 2) := by decide +kernel
theorem dX1_judgeTurbine_74 : decode cX1_judgeTurbine 74 = .ok (.ireturn, 1) := by decide +kernel
theorem dX1_judgeTurbine_75 : decode cX1_judgeTurbine 75 = .ok (.iload_n 3, 1) := by decide +kernel
theorem dX1_judgeTurbine_76 : decode cX1_judgeTurbine 76 = .ok (.iconst 0, 1) := by decide +kernel
theorem dX1_judgeTurbine_77 : decode cX1_judgeTurbine 77 = .ok (.bipush 90, 2) := by decide +kernel
theorem dX1_judgeTurbine_79 : decode cX1_judgeTurbine 79 = .ok (.invokestatic 166, 3) := by decide +kernel
theorem dX1_judgeTurbine_82 : decode cX1_judgeTurbine 82 = .ok (.ifCond .ne 6, 3) := by decide +kernel
theorem dX1_judgeTurbine_85 : decode cX1_judgeTurbine 85 = .ok (.bipush (-2), 2) := by decide +kernel
theorem dX1_judgeTurbine_87 : decode cX1_judgeTurbine 87 = .ok (.ireturn, 1) := by decide +kernel
theorem dX1_judgeTurbine_88 : decode cX1_judgeTurbine 88 = .ok (.iload 4, 2) := by decide +kernel
theorem dX1_judgeTurbine_90 : decode cX1_judgeTurbine 90 = .ok (.ifCond .eq 7, 3) := by decide +kernel
theorem dX1_judgeTurbine_93 : decode cX1_judgeTurbine 93 = .ok (.iconst 0, 1) := by decide +kernel
theorem dX1_judgeTurbine_94 : decode cX1_judgeTurbine 94 = .ok (.goto 4, 3) := by decide +kernel
theorem dX1_judgeTurbine_97 : decode cX1_judgeTurbine 97 = .ok (.iconst 3, 1) := by decide +kernel
theorem dX1_judgeTurbine_98 : decode cX1_judgeTurbine 98 = .ok (.ireturn, 1) := by decide +kernel
theorem dX1_judgeTurbine_99 : decode cX1_judgeTurbine 99 = .ok (.iload 4, 2) := by decide +kernel
theorem dX1_judgeTurbine_101 : decode cX1_judgeTurbine 101 = .ok (.ifCond .ne 5, 3) := by decide +kernel
theorem dX1_judgeTurbine_104 : decode cX1_judgeTurbine 104 = .ok (.iconst 3, 1) := by decide +kernel
theorem dX1_judgeTurbine_105 : decode cX1_judgeTurbine 105 = .ok (.ireturn, 1) := by decide +kernel
theorem dX1_judgeTurbine_106 : decode cX1_judgeTurbine 106 = .ok (.aload_n 0, 1) := by decide +kernel
theorem dX1_judgeTurbine_107 : decode cX1_judgeTurbine 107 = .ok (.iload_n 2, 1) := by decide +kernel
theorem dX1_judgeTurbine_108 : decode cX1_judgeTurbine 108 = .ok (.invokevirtual 176, 3) := by decide +kernel
theorem dX1_judgeTurbine_111 : decode cX1_judgeTurbine 111 = .ok (.ifCond .eq 7, 3) := by decide +kernel
theorem dX1_judgeTurbine_114 : decode cX1_judgeTurbine 114 = .ok (.iconst 0, 1) := by decide +kernel
theorem dX1_judgeTurbine_115 : decode cX1_judgeTurbine 115 = .ok (.goto 5, 3) := by decide +kernel
theorem dX1_judgeTurbine_118 : decode cX1_judgeTurbine 118 = .ok (.bipush 7, 2) := by decide +kernel
theorem dX1_judgeTurbine_120 : decode cX1_judgeTurbine 120 = .ok (.ireturn, 1) := by decide +kernel
theorem dX1_judgeTurbine_121 : decode cX1_judgeTurbine 121 = .ok (.iload 4, 2) := by decide +kernel
theorem dX1_judgeTurbine_123 : decode cX1_judgeTurbine 123 = .ok (.ifCond .eq 7, 3) := by decide +kernel
theorem dX1_judgeTurbine_126 : decode cX1_judgeTurbine 126 = .ok (.iconst 0, 1) := by decide +kernel
theorem dX1_judgeTurbine_127 : decode cX1_judgeTurbine 127 = .ok (.goto 4, 3) := by decide +kernel
theorem dX1_judgeTurbine_130 : decode cX1_judgeTurbine 130 = .ok (.iconst 3, 1) := by decide +kernel
theorem dX1_judgeTurbine_131 : decode cX1_judgeTurbine 131 = .ok (.ireturn, 1) := by decide +kernel
theorem dX1_judgeSending_0 : decode cX1_judgeSending 0 = .ok (.iload_n 2, 1) := by decide +kernel
theorem dX1_judgeSending_1 : decode cX1_judgeSending 1 = .ok (.iconst 1, 1) := by decide +kernel
theorem dX1_judgeSending_2 : decode cX1_judgeSending 2 = .ok (.bipush 12, 2) := by decide +kernel
theorem dX1_judgeSending_4 : decode cX1_judgeSending 4 = .ok (.invokestatic 166, 3) := by decide +kernel
theorem dX1_judgeSending_7 : decode cX1_judgeSending 7 = .ok (.ifCond .ne 6, 3) := by decide +kernel
theorem dX1_judgeSending_10 : decode cX1_judgeSending 10 = .ok (.bipush (-2), 2) := by decide +kernel
theorem dX1_judgeSending_12 : decode cX1_judgeSending 12 = .ok (.ireturn, 1) := by decide +kernel
theorem dX1_judgeSending_13 : decode cX1_judgeSending 13 = .ok (.aload_n 0, 1) := by decide +kernel
theorem dX1_judgeSending_14 : decode cX1_judgeSending 14 = .ok (.iload_n 1, 1) := by decide +kernel
theorem dX1_judgeSending_15 : decode cX1_judgeSending 15 = .ok (.iconst 2, 1) := by decide +kernel
theorem dX1_judgeSending_16 : decode cX1_judgeSending 16 = .ok (.invokevirtual 84, 3) := by decide +kernel
theorem dX1_judgeSending_19 : decode cX1_judgeSending 19 = .ok (.ifCond .ne 5, 3) := by decide +kernel
theorem dX1_judgeSending_22 : decode cX1_judgeSending 22 = .ok (.iconst 4, 1) := by decide +kernel
theorem dX1_judgeSending_23 : decode cX1_judgeSending 23 = .ok (.ireturn, 1) := by decide +kernel
theorem dX1_judgeSending_24 : decode cX1_judgeSending 24 = .ok (.aload_n 0, 1) := by decide +kernel
theorem dX1_judgeSending_25 : decode cX1_judgeSending 25 = .ok (.iconst 3, 1) := by decide +kernel
theorem dX1_judgeSending_26 : decode cX1_judgeSending 26 = .ok (.invokevirtual 88, 3) := by decide +kernel
theorem dX1_judgeSending_29 : decode cX1_judgeSending 29 = .ok (.iconst 2, 1) := by decide +kernel
theorem dX1_judgeSending_30 : decode cX1_judgeSending 30 = .ok (.if_icmp .ge 7, 3) := by decide +kernel
theorem dX1_judgeSending_33 : decode cX1_judgeSending 33 = .ok (.iconst 0, 1) := by decide +kernel
theorem dX1_judgeSending_34 : decode cX1_judgeSending 34 = .ok (.goto 4, 3) := by decide +kernel
theorem dX1_judgeSending_37 : decode cX1_judgeSending 37 = .ok (.iconst 5, 1) := by decide +kernel
theorem dX1_judgeSending_38 : decode cX1_judgeSending 38 = .ok (.ireturn, 1) := by decide +kernel
theorem dX1_judgeBid_0 : decode cX1_judgeBid 0 = .ok (.iload_n 1, 1) := by decide +kernel
theorem dX1_judgeBid_1 : decode cX1_judgeBid 1 = .ok (.bipush 113, 2) := by decide +kernel
theorem dX1_judgeBid_3 : decode cX1_judgeBid 3 = .ok (.if_icmp .ne 18, 3) := by decide +kernel
theorem dX1_judgeBid_6 : decode cX1_judgeBid 6 = .ok (.aload_n 0, 1) := by decide +kernel
theorem dX1_judgeBid_7 : decode cX1_judgeBid 7 = .ok (.iload_n 2, 1) := by decide +kernel
theorem dX1_judgeBid_8 : decode cX1_judgeBid 8 = .ok (.invokevirtual 92, 3) := by decide +kernel
theorem dX1_judgeBid_11 : decode cX1_judgeBid 11 = .ok (.ifCond .eq 7, 3) := by decide +kernel
theorem dX1_judgeBid_14 : decode cX1_judgeBid 14 = .ok (.iconst 0, 1) := by decide +kernel
theorem dX1_judgeBid_15 : decode cX1_judgeBid 15 = .ok (.goto 5, 3) := by decide +kernel
theorem dX1_judgeBid_18 : decode cX1_judgeBid 18 = .ok (.bipush 9, 2) := by decide +kernel
theorem dX1_judgeBid_20 : decode cX1_judgeBid 20 = .ok (.ireturn, 1) := by decide +kernel
theorem dX1_judgeBid_21 : decode cX1_judgeBid 21 = .ok (.iload_n 3, 1) := by decide +kernel
theorem dX1_judgeBid_22 : decode cX1_judgeBid 22 = .ok (.iconst 1, 1) := by decide +kernel
theorem dX1_judgeBid_23 : decode cX1_judgeBid 23 = .ok (.bipush 50, 2) := by decide +kernel
theorem dX1_judgeBid_25 : decode cX1_judgeBid 25 = .ok (.invokestatic 166, 3) := by decide +kernel
theorem dX1_judgeBid_28 : decode cX1_judgeBid 28 = .ok (.ifCond .eq 15, 3) := by decide +kernel
theorem dX1_judgeBid_31 : decode cX1_judgeBid 31 = .ok (.iload 4, 2) := by decide +kernel
theorem dX1_judgeBid_33 : decode cX1_judgeBid 33 = .ok (.iconst 1, 1) := by decide +kernel
theorem dX1_judgeBid_34 : decode cX1_judgeBid 34 = .ok (.sipush 500, 3) := by decide +kernel
theorem dX1_judgeBid_37 : decode cX1_judgeBid 37 = .ok (.invokestatic 166, 3) := by decide +kernel
theorem dX1_judgeBid_40 : decode cX1_judgeBid 40 = .ok (.ifCond .ne 6, 3) := by decide +kernel
theorem dX1_judgeBid_43 : decode cX1_judgeBid 43 = .ok (.bipush (-2), 2) := by decide +kernel
theorem dX1_judgeBid_45 : decode cX1_judgeBid 45 = .ok (.ireturn, 1) := by decide +kernel
theorem dX1_judgeBid_46 : decode cX1_judgeBid 46 = .ok (.aload_n 0, 1) := by decide +kernel
theorem dX1_judgeBid_47 : decode cX1_judgeBid 47 = .ok (.iload_n 2, 1) := by decide +kernel
theorem dX1_judgeBid_48 : decode cX1_judgeBid 48 = .ok (.invokevirtual 92, 3) := by decide +kernel
theorem dX1_judgeBid_51 : decode cX1_judgeBid 51 = .ok (.ifCond .eq 8, 3) := by decide +kernel
theorem dX1_judgeBid_54 : decode cX1_judgeBid 54 = .ok (.bipush 8, 2) := by decide +kernel
theorem dX1_judgeBid_56 : decode cX1_judgeBid 56 = .ok (.goto 4, 3) := by decide +kernel
theorem dX1_judgeBid_59 : decode cX1_judgeBid 59 = .ok (.iconst 0, 1) := by decide +kernel
theorem dX1_judgeBid_60 : decode cX1_judgeBid 60 = .ok (.ireturn, 1) := by decide +kernel
theorem dX1_detailOf_0 : decode cX1_detailOf 0 = .ok (.iload_n 1, 1) := by decide +kernel
theorem dX1_detailOf_1 : decode cX1_detailOf 1 = .ok (.tableswitch 89 1 9 #[51, 54, 61, 89, 70, 89, 89, 75, 84], 51) := by decide +kernel
theorem dX1_detailOf_52 : decode cX1_detailOf 52 = .ok (.bipush 12, 2) := by decide +kernel
theorem dX1_detailOf_54 : decode cX1_detailOf 54 = .ok (.ireturn, 1) := by decide +kernel
theorem dX1_detailOf_55 : decode cX1_detailOf 55 = .ok (.aload_n 0, 1) := by decide +kernel
theorem dX1_detailOf_56 : decode cX1_detailOf 56 = .ok (.iload_n 2, 1) := by decide +kernel
theorem dX1_detailOf_57 : decode cX1_detailOf 57 = .ok (.iload_n 3, 1) := by decide +kernel
theorem dX1_detailOf_58 : decode cX1_detailOf 58 = .ok (.invokevirtual 137, 3) := by decide +kernel
theorem dX1_detailOf_61 : decode cX1_detailOf 61 = .ok (.ireturn, 1) := by decide +kernel
theorem dX1_detailOf_62 : decode cX1_detailOf 62 = .ok (.aload_n 0, 1) := by decide +kernel
theorem dX1_detailOf_63 : decode cX1_detailOf 63 = .ok (.getfield 27, 3) := by decide +kernel
theorem dX1_detailOf_66 : decode cX1_detailOf 66 = .ok (.iload_n 2, 1) := by decide +kernel
theorem dX1_detailOf_67 : decode cX1_detailOf 67 = .ok (.invokestatic 80, 3) := by decide +kernel
theorem dX1_detailOf_70 : decode cX1_detailOf 70 = .ok (.ireturn, 1) := by decide +kernel
theorem dX1_detailOf_71 : decode cX1_detailOf 71 = .ok (.aload_n 0, 1) := by decide +kernel
theorem dX1_detailOf_72 : decode cX1_detailOf 72 = .ok (.invokevirtual 179, 3) := by decide +kernel
theorem dX1_detailOf_75 : decode cX1_detailOf 75 = .ok (.ireturn, 1) := by decide +kernel
theorem dX1_detailOf_76 : decode cX1_detailOf 76 = .ok (.aload_n 0, 1) := by decide +kernel
theorem dX1_detailOf_77 : decode cX1_detailOf 77 = .ok (.getfield 33, 3) := by decide +kernel
theorem dX1_detailOf_80 : decode cX1_detailOf 80 = .ok (.iload_n 2, 1) := by decide +kernel
theorem dX1_detailOf_81 : decode cX1_detailOf 81 = .ok (.invokestatic 80, 3) := by decide +kernel
theorem dX1_detailOf_84 : decode cX1_detailOf 84 = .ok (.ireturn, 1) := by decide +kernel
theorem dX1_detailOf_85 : decode cX1_detailOf 85 = .ok (.aload_n 0, 1) := by decide +kernel
theorem dX1_detailOf_86 : decode cX1_detailOf 86 = .ok (.invokevirtual 183, 3) := by decide +kernel
theorem dX1_detailOf_89 : decode cX1_detailOf 89 = .ok (.ireturn, 1) := by decide +kernel
theorem dX1_detailOf_90 : decode cX1_detailOf 90 = .ok (.aload_n 0, 1) := by decide +kernel
theorem dX1_detailOf_91 : decode cX1_detailOf 91 = .ok (.iload_n 2, 1) := by decide +kernel
theorem dX1_detailOf_92 : decode cX1_detailOf 92 = .ok (.aload_n 0, 1) := by decide +kernel
theorem dX1_detailOf_93 : decode cX1_detailOf 93 = .ok (.getfield 39, 3) := by decide +kernel
theorem dX1_detailOf_96 : decode cX1_detailOf 96 = .ok (.aload_n 0, 1) := by decide +kernel
theorem dX1_detailOf_97 : decode cX1_detailOf 97 = .ok (.getfield 54, 3) := by decide +kernel
theorem dX1_detailOf_100 : decode cX1_detailOf 100 = .ok (.invokevirtual 123, 3) := by decide +kernel
theorem dX1_detailOf_103 : decode cX1_detailOf 103 = .ok (.ireturn, 1) := by decide +kernel
theorem dX1_carryOut_0 : decode cX1_carryOut 0 = .ok (.iload_n 1, 1) := by decide +kernel
theorem dX1_carryOut_1 : decode cX1_carryOut 1 = .ok (.tableswitch 187 97 119 #[107, 172, 135, 162, 187, 116, 156, 187, 187, 187, 187, 187, 187, 187, 187, 187, 181, 129, 122, 187, 142, 167, 148], 107) := by decide +kernel
theorem dX1_carryOut_108 : decode cX1_carryOut 108 = .ok (.aload_n 0, 1) := by decide +kernel
theorem dX1_carryOut_109 : decode cX1_carryOut 109 = .ok (.iload_n 2, 1) := by decide +kernel
theorem dX1_carryOut_110 : decode cX1_carryOut 110 = .ok (.iload_n 3, 1) := by decide +kernel
theorem dX1_carryOut_111 : decode cX1_carryOut 111 = .ok (.iload 4, 2) := by decide +kernel
theorem dX1_carryOut_113 : decode cX1_carryOut 113 = .ok (.invokevirtual 186, 3) := by decide +kernel
theorem dX1_carryOut_116 : decode cX1_carryOut 116 = .ok (.ireturn, 1) := by decide +kernel
theorem dX1_carryOut_117 : decode cX1_carryOut 117 = .ok (.aload_n 0, 1) := by decide +kernel
theorem dX1_carryOut_118 : decode cX1_carryOut 118 = .ok (.iload_n 2, 1) := by decide +kernel
theorem dX1_carryOut_119 : decode cX1_carryOut 119 = .ok (.invokevirtual 189, 3) := by decide +kernel
theorem dX1_carryOut_122 : decode cX1_carryOut 122 = .ok (.ireturn, 1) := by decide +kernel
theorem dX1_carryOut_123 : decode cX1_carryOut 123 = .ok (.aload_n 0, 1) := by decide +kernel
theorem dX1_carryOut_124 : decode cX1_carryOut 124 = .ok (.iload_n 2, 1) := by decide +kernel
theorem dX1_carryOut_125 : decode cX1_carryOut 125 = .ok (.iload_n 3, 1) := by decide +kernel
theorem dX1_carryOut_126 : decode cX1_carryOut 126 = .ok (.invokevirtual 192, 3) := by decide +kernel
theorem dX1_carryOut_129 : decode cX1_carryOut 129 = .ok (.ireturn, 1) := by decide +kernel
theorem dX1_carryOut_130 : decode cX1_carryOut 130 = .ok (.aload_n 0, 1) := by decide +kernel
theorem dX1_carryOut_131 : decode cX1_carryOut 131 = .ok (.iload_n 2, 1) := by decide +kernel
theorem dX1_carryOut_132 : decode cX1_carryOut 132 = .ok (.invokevirtual 195, 3) := by decide +kernel
theorem dX1_carryOut_135 : decode cX1_carryOut 135 = .ok (.ireturn, 1) := by decide +kernel
theorem dX1_carryOut_136 : decode cX1_carryOut 136 = .ok (.aload_n 0, 1) := by decide +kernel
theorem dX1_carryOut_137 : decode cX1_carryOut 137 = .ok (.iload_n 2, 1) := by decide +kernel
theorem dX1_carryOut_138 : decode cX1_carryOut 138 = .ok (.iload_n 3, 1) := by decide +kernel
theorem dX1_carryOut_139 : decode cX1_carryOut 139 = .ok (.invokevirtual 198, 3) := by decide +kernel
theorem dX1_carryOut_142 : decode cX1_carryOut 142 = .ok (.ireturn, 1) := by decide +kernel
theorem dX1_carryOut_143 : decode cX1_carryOut 143 = .ok (.aload_n 0, 1) := by decide +kernel
theorem dX1_carryOut_144 : decode cX1_carryOut 144 = .ok (.iload_n 2, 1) := by decide +kernel
theorem dX1_carryOut_145 : decode cX1_carryOut 145 = .ok (.invokevirtual 201, 3) := by decide +kernel
theorem dX1_carryOut_148 : decode cX1_carryOut 148 = .ok (.ireturn, 1) := by decide +kernel
theorem dX1_carryOut_149 : decode cX1_carryOut 149 = .ok (.aload_n 0, 1) := by decide +kernel
theorem dX1_carryOut_150 : decode cX1_carryOut 150 = .ok (.iload_n 2, 1) := by decide +kernel
theorem dX1_carryOut_151 : decode cX1_carryOut 151 = .ok (.i2c, 1) := by decide +kernel
theorem dX1_carryOut_152 : decode cX1_carryOut 152 = .ok (.iload_n 3, 1) := by decide +kernel
theorem dX1_carryOut_153 : decode cX1_carryOut 153 = .ok (.invokevirtual 204, 3) := by decide +kernel
theorem dX1_carryOut_156 : decode cX1_carryOut 156 = .ok (.ireturn, 1) := by decide +kernel
theorem dX1_carryOut_157 : decode cX1_carryOut 157 = .ok (.aload_n 0, 1) := by decide +kernel
theorem dX1_carryOut_158 : decode cX1_carryOut 158 = .ok (.iload_n 2, 1) := by decide +kernel
theorem dX1_carryOut_159 : decode cX1_carryOut 159 = .ok (.invokevirtual 208, 3) := by decide +kernel
theorem dX1_carryOut_162 : decode cX1_carryOut 162 = .ok (.ireturn, 1) := by decide +kernel
theorem dX1_carryOut_163 : decode cX1_carryOut 163 = .ok (.aload_n 0, 1) := by decide +kernel
theorem dX1_carryOut_164 : decode cX1_carryOut 164 = .ok (.invokevirtual 211, 3) := by decide +kernel
theorem dX1_carryOut_167 : decode cX1_carryOut 167 = .ok (.ireturn, 1) := by decide +kernel
theorem dX1_carryOut_168 : decode cX1_carryOut 168 = .ok (.aload_n 0, 1) := by decide +kernel
theorem dX1_carryOut_169 : decode cX1_carryOut 169 = .ok (.invokevirtual 214, 3) := by decide +kernel
theorem dX1_carryOut_172 : decode cX1_carryOut 172 = .ok (.ireturn, 1) := by decide +kernel
theorem dX1_carryOut_173 : decode cX1_carryOut 173 = .ok (.aload_n 0, 1) := by decide +kernel
theorem dX1_carryOut_174 : decode cX1_carryOut 174 = .ok (.iload_n 2, 1) := by decide +kernel
theorem dX1_carryOut_175 : decode cX1_carryOut 175 = .ok (.iload_n 3, 1) := by decide +kernel
theorem dX1_carryOut_176 : decode cX1_carryOut 176 = .ok (.iload 4, 2) := by decide +kernel
theorem dX1_carryOut_178 : decode cX1_carryOut 178 = .ok (.invokevirtual 217, 3) := by decide +kernel
theorem dX1_carryOut_181 : decode cX1_carryOut 181 = .ok (.ireturn, 1) := by decide +kernel
theorem dX1_carryOut_182 : decode cX1_carryOut 182 = .ok (.aload_n 0, 1) := by decide +kernel
theorem dX1_carryOut_183 : decode cX1_carryOut 183 = .ok (.iload_n 2, 1) := by decide +kernel
theorem dX1_carryOut_184 : decode cX1_carryOut 184 = .ok (.invokevirtual 220, 3) := by decide +kernel
theorem dX1_carryOut_187 : decode cX1_carryOut 187 = .ok (.ireturn, 1) := by decide +kernel
theorem dX1_carryOut_188 : decode cX1_carryOut 188 = .ok (.aload_n 0, 1) := by decide +kernel
theorem dX1_carryOut_189 : decode cX1_carryOut 189 = .ok (.iload_n 2, 1) := by decide +kernel
theorem dX1_carryOut_190 : decode cX1_carryOut 190 = .ok (.invokevirtual 223, 3) := by decide +kernel
theorem dX1_carryOut_193 : decode cX1_carryOut 193 = .ok (.ireturn, 1) := by decide +kernel
theorem dX1_add_0 : decode cX1_add 0 = .ok (.aload_n 0, 1) := by decide +kernel
theorem dX1_add_1 : decode cX1_add 1 = .ok (.getfield 51, 3) := by decide +kernel
theorem dX1_add_4 : decode cX1_add 4 = .ok (.istore 4, 2) := by decide +kernel
theorem dX1_add_6 : decode cX1_add 6 = .ok (.aload_n 0, 1) := by decide +kernel
theorem dX1_add_7 : decode cX1_add 7 = .ok (.getfield 11, 3) := by decide +kernel
theorem dX1_add_10 : decode cX1_add 10 = .ok (.iload 4, 2) := by decide +kernel
theorem dX1_add_12 : decode cX1_add 12 = .ok (.iload_n 1, 1) := by decide +kernel
theorem dX1_add_13 : decode cX1_add 13 = .ok (.invokestatic 226, 3) := by decide +kernel
theorem dX1_add_16 : decode cX1_add 16 = .ok (.aload_n 0, 1) := by decide +kernel
theorem dX1_add_17 : decode cX1_add 17 = .ok (.getfield 15, 3) := by decide +kernel
theorem dX1_add_20 : decode cX1_add 20 = .ok (.iload 4, 2) := by decide +kernel
theorem dX1_add_22 : decode cX1_add 22 = .ok (.iload_n 2, 1) := by decide +kernel
theorem dX1_add_23 : decode cX1_add 23 = .ok (.invokestatic 226, 3) := by decide +kernel
theorem dX1_add_26 : decode cX1_add 26 = .ok (.aload_n 0, 1) := by decide +kernel
theorem dX1_add_27 : decode cX1_add 27 = .ok (.getfield 18, 3) := by decide +kernel
theorem dX1_add_30 : decode cX1_add 30 = .ok (.iload 4, 2) := by decide +kernel
theorem dX1_add_32 : decode cX1_add 32 = .ok (.iload_n 3, 1) := by decide +kernel
theorem dX1_add_33 : decode cX1_add 33 = .ok (.invokestatic 226, 3) := by decide +kernel
theorem dX1_add_36 : decode cX1_add 36 = .ok (.aload_n 0, 1) := by decide +kernel
theorem dX1_add_37 : decode cX1_add 37 = .ok (.getfield 21, 3) := by decide +kernel
theorem dX1_add_40 : decode cX1_add 40 = .ok (.iload 4, 2) := by decide +kernel
theorem dX1_add_42 : decode cX1_add 42 = .ok (.iconst 1, 1) := by decide +kernel
theorem dX1_add_43 : decode cX1_add 43 = .ok (.invokestatic 226, 3) := by decide +kernel
theorem dX1_add_46 : decode cX1_add 46 = .ok (.aload_n 0, 1) := by decide +kernel
theorem dX1_add_47 : decode cX1_add 47 = .ok (.getfield 24, 3) := by decide +kernel
theorem dX1_add_50 : decode cX1_add 50 = .ok (.iload 4, 2) := by decide +kernel
theorem dX1_add_52 : decode cX1_add 52 = .ok (.iconst (-1), 1) := by decide +kernel
theorem dX1_add_53 : decode cX1_add 53 = .ok (.invokestatic 226, 3) := by decide +kernel
theorem dX1_add_56 : decode cX1_add 56 = .ok (.aload_n 0, 1) := by decide +kernel
theorem dX1_add_57 : decode cX1_add 57 = .ok (.getfield 30, 3) := by decide +kernel
theorem dX1_add_60 : decode cX1_add 60 = .ok (.iload_n 1, 1) := by decide +kernel
theorem dX1_add_61 : decode cX1_add 61 = .ok (.iload_n 2, 1) := by decide +kernel
theorem dX1_add_62 : decode cX1_add 62 = .ok (.invokestatic 76, 3) := by decide +kernel
theorem dX1_add_65 : decode cX1_add 65 = .ok (.iload 4, 2) := by decide +kernel
theorem dX1_add_67 : decode cX1_add 67 = .ok (.iconst 1, 1) := by decide +kernel
theorem dX1_add_68 : decode cX1_add 68 = .ok (.iadd, 1) := by decide +kernel
theorem dX1_add_69 : decode cX1_add 69 = .ok (.invokestatic 226, 3) := by decide +kernel
theorem dX1_add_72 : decode cX1_add 72 = .ok (.aload_n 0, 1) := by decide +kernel
theorem dX1_add_73 : decode cX1_add 73 = .ok (.dup, 1) := by decide +kernel
theorem dX1_add_74 : decode cX1_add 74 = .ok (.getfield 51, 3) := by decide +kernel
theorem dX1_add_77 : decode cX1_add 77 = .ok (.iconst 1, 1) := by decide +kernel
theorem dX1_add_78 : decode cX1_add 78 = .ok (.iadd, 1) := by decide +kernel
theorem dX1_add_79 : decode cX1_add 79 = .ok (.putfield 51, 3) := by decide +kernel
theorem dX1_add_82 : decode cX1_add 82 = .ok (.iload 4, 2) := by decide +kernel
theorem dX1_add_84 : decode cX1_add 84 = .ok (.ireturn, 1) := by decide +kernel
theorem dX1_breakDown_0 : decode cX1_breakDown 0 = .ok (.aload_n 0, 1) := by decide +kernel
theorem dX1_breakDown_1 : decode cX1_breakDown 1 = .ok (.getfield 21, 3) := by decide +kernel
theorem dX1_breakDown_4 : decode cX1_breakDown 4 = .ok (.iload_n 1, 1) := by decide +kernel
theorem dX1_breakDown_5 : decode cX1_breakDown 5 = .ok (.iconst 2, 1) := by decide +kernel
theorem dX1_breakDown_6 : decode cX1_breakDown 6 = .ok (.invokestatic 226, 3) := by decide +kernel
theorem dX1_breakDown_9 : decode cX1_breakDown 9 = .ok (.aload_n 0, 1) := by decide +kernel
theorem dX1_breakDown_10 : decode cX1_breakDown 10 = .ok (.getfield 24, 3) := by decide +kernel
theorem dX1_breakDown_13 : decode cX1_breakDown 13 = .ok (.iload_n 1, 1) := by decide +kernel
theorem dX1_breakDown_14 : decode cX1_breakDown 14 = .ok (.iconst (-1), 1) := by decide +kernel
theorem dX1_breakDown_15 : decode cX1_breakDown 15 = .ok (.invokestatic 226, 3) := by decide +kernel
theorem dX1_breakDown_18 : decode cX1_breakDown 18 = .ok (.aload_n 0, 1) := by decide +kernel
theorem dX1_breakDown_19 : decode cX1_breakDown 19 = .ok (.getfield 51, 3) := by decide +kernel
theorem dX1_breakDown_22 : decode cX1_breakDown 22 = .ok (.aload_n 0, 1) := by decide +kernel
theorem dX1_breakDown_23 : decode cX1_breakDown 23 = .ok (.iconst 1, 1) := by decide +kernel
theorem dX1_breakDown_24 : decode cX1_breakDown 24 = .ok (.invokevirtual 88, 3) := by decide +kernel
theorem dX1_breakDown_27 : decode cX1_breakDown 27 = .ok (.isub, 1) := by decide +kernel
theorem dX1_breakDown_28 : decode cX1_breakDown 28 = .ok (.ireturn, 1) := by decide +kernel
theorem dX1_startService_0 : decode cX1_startService 0 = .ok (.aload_n 0, 1) := by decide +kernel
theorem dX1_startService_1 : decode cX1_startService 1 = .ok (.getfield 21, 3) := by decide +kernel
theorem dX1_startService_4 : decode cX1_startService 4 = .ok (.iload_n 1, 1) := by decide +kernel
theorem dX1_startService_5 : decode cX1_startService 5 = .ok (.iconst 3, 1) := by decide +kernel
theorem dX1_startService_6 : decode cX1_startService 6 = .ok (.invokestatic 226, 3) := by decide +kernel
theorem dX1_startService_9 : decode cX1_startService 9 = .ok (.aload_n 0, 1) := by decide +kernel
theorem dX1_startService_10 : decode cX1_startService 10 = .ok (.getfield 27, 3) := by decide +kernel
theorem dX1_startService_13 : decode cX1_startService 13 = .ok (.iload_n 1, 1) := by decide +kernel
theorem dX1_startService_14 : decode cX1_startService 14 = .ok (.iload_n 2, 1) := by decide +kernel
theorem dX1_startService_15 : decode cX1_startService 15 = .ok (.invokestatic 226, 3) := by decide +kernel
theorem dX1_startService_18 : decode cX1_startService 18 = .ok (.aload_n 0, 1) := by decide +kernel
theorem dX1_startService_19 : decode cX1_startService 19 = .ok (.invokevirtual 230, 3) := by decide +kernel
theorem dX1_startService_22 : decode cX1_startService 22 = .ok (.ireturn, 1) := by decide +kernel
theorem dX1_stopService_0 : decode cX1_stopService 0 = .ok (.aload_n 0, 1) := by decide +kernel
theorem dX1_stopService_1 : decode cX1_stopService 1 = .ok (.getfield 27, 3) := by decide +kernel
theorem dX1_stopService_4 : decode cX1_stopService 4 = .ok (.iload_n 1, 1) := by decide +kernel
theorem dX1_stopService_5 : decode cX1_stopService 5 = .ok (.invokestatic 80, 3) := by decide +kernel
theorem dX1_stopService_8 : decode cX1_stopService 8 = .ok (.istore_n 2, 1) := by decide +kernel
theorem dX1_stopService_9 : decode cX1_stopService 9 = .ok (.aload_n 0, 1) := by decide +kernel
theorem dX1_stopService_10 : decode cX1_stopService 10 = .ok (.getfield 21, 3) := by decide +kernel
theorem dX1_stopService_13 : decode cX1_stopService 13 = .ok (.iload_n 1, 1) := by decide +kernel
theorem dX1_stopService_14 : decode cX1_stopService 14 = .ok (.iconst 2, 1) := by decide +kernel
theorem dX1_stopService_15 : decode cX1_stopService 15 = .ok (.invokestatic 226, 3) := by decide +kernel
theorem dX1_stopService_18 : decode cX1_stopService 18 = .ok (.aload_n 0, 1) := by decide +kernel
theorem dX1_stopService_19 : decode cX1_stopService 19 = .ok (.getfield 27, 3) := by decide +kernel
theorem dX1_stopService_22 : decode cX1_stopService 22 = .ok (.iload_n 1, 1) := by decide +kernel
theorem dX1_stopService_23 : decode cX1_stopService 23 = .ok (.iconst 0, 1) := by decide +kernel
theorem dX1_stopService_24 : decode cX1_stopService 24 = .ok (.invokestatic 226, 3) := by decide +kernel
theorem dX1_stopService_27 : decode cX1_stopService 27 = .ok (.iload_n 2, 1) := by decide +kernel
theorem dX1_stopService_28 : decode cX1_stopService 28 = .ok (.ireturn, 1) := by decide +kernel
theorem dX1_changeLimit_0 : decode cX1_changeLimit 0 = .ok (.aload_n 0, 1) := by decide +kernel
theorem dX1_changeLimit_1 : decode cX1_changeLimit 1 = .ok (.getfield 24, 3) := by decide +kernel
theorem dX1_changeLimit_4 : decode cX1_changeLimit 4 = .ok (.iload_n 1, 1) := by decide +kernel
theorem dX1_changeLimit_5 : decode cX1_changeLimit 5 = .ok (.iload_n 2, 1) := by decide +kernel
theorem dX1_changeLimit_6 : decode cX1_changeLimit 6 = .ok (.invokestatic 226, 3) := by decide +kernel
theorem dX1_changeLimit_9 : decode cX1_changeLimit 9 = .ok (.aload_n 0, 1) := by decide +kernel
theorem dX1_changeLimit_10 : decode cX1_changeLimit 10 = .ok (.iload_n 1, 1) := by decide +kernel
theorem dX1_changeLimit_11 : decode cX1_changeLimit 11 = .ok (.aload_n 0, 1) := by decide +kernel
theorem dX1_changeLimit_12 : decode cX1_changeLimit 12 = .ok (.getfield 39, 3) := by decide +kernel
theorem dX1_changeLimit_15 : decode cX1_changeLimit 15 = .ok (.aload_n 0, 1) := by decide +kernel
theorem dX1_changeLimit_16 : decode cX1_changeLimit 16 = .ok (.getfield 54, 3) := by decide +kernel
theorem dX1_changeLimit_19 : decode cX1_changeLimit 19 = .ok (.invokevirtual 123, 3) := by decide +kernel
theorem dX1_changeLimit_22 : decode cX1_changeLimit 22 = .ok (.ireturn, 1) := by decide +kernel
theorem dX1_endLimit_0 : decode cX1_endLimit 0 = .ok (.aload_n 0, 1) := by decide +kernel
theorem dX1_endLimit_1 : decode cX1_endLimit 1 = .ok (.iload_n 1, 1) := by decide +kernel
theorem dX1_endLimit_2 : decode cX1_endLimit 2 = .ok (.iconst (-1), 1) := by decide +kernel
theorem dX1_endLimit_3 : decode cX1_endLimit 3 = .ok (.invokevirtual 198, 3) := by decide +kernel
theorem dX1_endLimit_6 : decode cX1_endLimit 6 = .ok (.ireturn, 1) := by decide +kernel
theorem dX1_turnWind_0 : decode cX1_turnWind 0 = .ok (.aload_n 0, 1) := by decide +kernel
theorem dX1_turnWind_1 : decode cX1_turnWind 1 = .ok (.iload_n 1, 1) := by decide +kernel
theorem dX1_turnWind_2 : decode cX1_turnWind 2 = .ok (.putfield 39, 3) := by decide +kernel
theorem dX1_turnWind_5 : decode cX1_turnWind 5 = .ok (.aload_n 0, 1) := by decide +kernel
theorem dX1_turnWind_6 : decode cX1_turnWind 6 = .ok (.iload_n 2, 1) := by decide +kernel
theorem dX1_turnWind_7 : decode cX1_turnWind 7 = .ok (.putfield 54, 3) := by decide +kernel
theorem dX1_turnWind_10 : decode cX1_turnWind 10 = .ok (.aload_n 0, 1) := by decide +kernel
theorem dX1_turnWind_11 : decode cX1_turnWind 11 = .ok (.iload_n 1, 1) := by decide +kernel
theorem dX1_turnWind_12 : decode cX1_turnWind 12 = .ok (.iload_n 2, 1) := by decide +kernel
theorem dX1_turnWind_13 : decode cX1_turnWind 13 = .ok (.invokevirtual 233, 3) := by decide +kernel
theorem dX1_turnWind_16 : decode cX1_turnWind 16 = .ok (.ireturn, 1) := by decide +kernel
theorem dX1_changeGridLimit_0 : decode cX1_changeGridLimit 0 = .ok (.aload_n 0, 1) := by decide +kernel
theorem dX1_changeGridLimit_1 : decode cX1_changeGridLimit 1 = .ok (.getfield 43, 3) := by decide +kernel
theorem dX1_changeGridLimit_4 : decode cX1_changeGridLimit 4 = .ok (.istore_n 2, 1) := by decide +kernel
theorem dX1_changeGridLimit_5 : decode cX1_changeGridLimit 5 = .ok (.aload_n 0, 1) := by decide +kernel
theorem dX1_changeGridLimit_6 : decode cX1_changeGridLimit 6 = .ok (.iload_n 1, 1) := by decide +kernel
theorem dX1_changeGridLimit_7 : decode cX1_changeGridLimit 7 = .ok (.putfield 43, 3) := by decide +kernel
theorem dX1_changeGridLimit_10 : decode cX1_changeGridLimit 10 = .ok (.iload_n 2, 1) := by decide +kernel
theorem dX1_changeGridLimit_11 : decode cX1_changeGridLimit 11 = .ok (.ireturn, 1) := by decide +kernel
theorem dX1_limitToGrid_0 : decode cX1_limitToGrid 0 = .ok (.iconst 0, 1) := by decide +kernel
theorem dX1_limitToGrid_1 : decode cX1_limitToGrid 1 = .ok (.istore_n 1, 1) := by decide +kernel
theorem dX1_limitToGrid_2 : decode cX1_limitToGrid 2 = .ok (.iconst 0, 1) := by decide +kernel
theorem dX1_limitToGrid_3 : decode cX1_limitToGrid 3 = .ok (.istore_n 2, 1) := by decide +kernel
theorem dX1_limitToGrid_4 : decode cX1_limitToGrid 4 = .ok (.iload_n 2, 1) := by decide +kernel
theorem dX1_limitToGrid_5 : decode cX1_limitToGrid 5 = .ok (.aload_n 0, 1) := by decide +kernel
theorem dX1_limitToGrid_6 : decode cX1_limitToGrid 6 = .ok (.getfield 51, 3) := by decide +kernel
theorem dX1_limitToGrid_9 : decode cX1_limitToGrid 9 = .ok (.if_icmp .ge 75, 3) := by decide +kernel
theorem dX1_limitToGrid_12 : decode cX1_limitToGrid 12 = .ok (.aload_n 0, 1) := by decide +kernel
theorem dX1_limitToGrid_13 : decode cX1_limitToGrid 13 = .ok (.aload_n 0, 1) := by decide +kernel
theorem dX1_limitToGrid_14 : decode cX1_limitToGrid 14 = .ok (.getfield 39, 3) := by decide +kernel
theorem dX1_limitToGrid_17 : decode cX1_limitToGrid 17 = .ok (.aload_n 0, 1) := by decide +kernel
theorem dX1_limitToGrid_18 : decode cX1_limitToGrid 18 = .ok (.getfield 54, 3) := by decide +kernel
theorem dX1_limitToGrid_21 : decode cX1_limitToGrid 21 = .ok (.invokevirtual 233, 3) := by decide +kernel
theorem dX1_limitToGrid_24 : decode cX1_limitToGrid 24 = .ok (.aload_n 0, 1) := by decide +kernel
theorem dX1_limitToGrid_25 : decode cX1_limitToGrid 25 = .ok (.getfield 43, 3) := by decide +kernel
theorem dX1_limitToGrid_28 : decode cX1_limitToGrid 28 = .ok (.isub, 1) := by decide +kernel
theorem dX1_limitToGrid_29 : decode cX1_limitToGrid 29 = .ok (.istore_n 3, 1) := by decide +kernel
theorem dX1_limitToGrid_30 : decode cX1_limitToGrid 30 = .ok (.iload_n 3, 1) := by decide +kernel
theorem dX1_limitToGrid_31 : decode cX1_limitToGrid 31 = .ok (.ifCond .gt 5, 3) := by decide +kernel
theorem dX1_limitToGrid_34 : decode cX1_limitToGrid 34 = .ok (.iload_n 1, 1) := by decide +kernel
theorem dX1_limitToGrid_35 : decode cX1_limitToGrid 35 = .ok (.ireturn, 1) := by decide +kernel
theorem dX1_limitToGrid_36 : decode cX1_limitToGrid 36 = .ok (.aload_n 0, 1) := by decide +kernel
theorem dX1_limitToGrid_37 : decode cX1_limitToGrid 37 = .ok (.invokevirtual 236, 3) := by decide +kernel
theorem dX1_limitToGrid_40 : decode cX1_limitToGrid 40 = .ok (.istore 4, 2) := by decide +kernel
theorem dX1_limitToGrid_42 : decode cX1_limitToGrid 42 = .ok (.aload_n 0, 1) := by decide +kernel
theorem dX1_limitToGrid_43 : decode cX1_limitToGrid 43 = .ok (.iload 4, 2) := by decide +kernel
theorem dX1_limitToGrid_45 : decode cX1_limitToGrid 45 = .ok (.aload_n 0, 1) := by decide +kernel
theorem dX1_limitToGrid_46 : decode cX1_limitToGrid 46 = .ok (.getfield 39, 3) := by decide +kernel
theorem dX1_limitToGrid_49 : decode cX1_limitToGrid 49 = .ok (.aload_n 0, 1) := by decide +kernel
theorem dX1_limitToGrid_50 : decode cX1_limitToGrid 50 = .ok (.getfield 54, 3) := by decide +kernel
theorem dX1_limitToGrid_53 : decode cX1_limitToGrid 53 = .ok (.invokevirtual 123, 3) := by decide +kernel
theorem dX1_limitToGrid_56 : decode cX1_limitToGrid 56 = .ok (.iload_n 3, 1) := by decide +kernel
theorem dX1_limitToGrid_57 : decode cX1_limitToGrid 57 = .ok (.isub, 1) := by decide +kernel
theorem dX1_limitToGrid_58 : decode cX1_limitToGrid 58 = .ok (.istore 5, 2) := by decide +kernel
theorem dX1_limitToGrid_60 : decode cX1_limitToGrid 60 = .ok (.aload_n 0, 1) := by decide +kernel
theorem dX1_limitToGrid_61 : decode cX1_limitToGrid 61 = .ok (.getfield 24, 3) := by decide +kernel
theorem dX1_limitToGrid_64 : decode cX1_limitToGrid 64 = .ok (.iload 4, 2) := by decide +kernel
theorem dX1_limitToGrid_66 : decode cX1_limitToGrid 66 = .ok (.iload 5, 2) := by decide +kernel
theorem dX1_limitToGrid_68 : decode cX1_limitToGrid 68 = .ok (.iconst 0, 1) := by decide +kernel
theorem dX1_limitToGrid_69 : decode cX1_limitToGrid 69 = .ok (.invokestatic 239, 3) := by decide +kernel
theorem dX1_limitToGrid_72 : decode cX1_limitToGrid 72 = .ok (.invokestatic 226, 3) := by decide +kernel
theorem dX1_limitToGrid_75 : decode cX1_limitToGrid 75 = .ok (.iinc 1 1, 3) := by decide +kernel
theorem dX1_limitToGrid_78 : decode cX1_limitToGrid 78 = .ok (.iinc 2 1, 3) := by decide +kernel
theorem dX1_limitToGrid_81 : decode cX1_limitToGrid 81 = .ok (.goto (-77), 3) := by decide +kernel
theorem dX1_limitToGrid_84 : decode cX1_limitToGrid 84 = .ok (.iload_n 1, 1) := by decide +kernel
theorem dX1_limitToGrid_85 : decode cX1_limitToGrid 85 = .ok (.ireturn, 1) := by decide +kernel
theorem dX1_turbineWithMostOutput_0 : decode cX1_turbineWithMostOutput 0 = .ok (.iconst (-1), 1) := by decide +kernel
theorem dX1_turbineWithMostOutput_1 : decode cX1_turbineWithMostOutput 1 = .ok (.istore_n 1, 1) := by decide +kernel
theorem dX1_turbineWithMostOutput_2 : decode cX1_turbineWithMostOutput 2 = .ok (.iconst (-1), 1) := by decide +kernel
theorem dX1_turbineWithMostOutput_3 : decode cX1_turbineWithMostOutput 3 = .ok (.istore_n 2, 1) := by decide +kernel
theorem dX1_turbineWithMostOutput_4 : decode cX1_turbineWithMostOutput 4 = .ok (.iconst 0, 1) := by decide +kernel
theorem dX1_turbineWithMostOutput_5 : decode cX1_turbineWithMostOutput 5 = .ok (.istore_n 3, 1) := by decide +kernel
theorem dX1_turbineWithMostOutput_6 : decode cX1_turbineWithMostOutput 6 = .ok (.iload_n 3, 1) := by decide +kernel
theorem dX1_turbineWithMostOutput_7 : decode cX1_turbineWithMostOutput 7 = .ok (.aload_n 0, 1) := by decide +kernel
theorem dX1_turbineWithMostOutput_8 : decode cX1_turbineWithMostOutput 8 = .ok (.getfield 51, 3) := by decide +kernel
theorem dX1_turbineWithMostOutput_11 : decode cX1_turbineWithMostOutput 11 = .ok (.if_icmp .ge 35, 3) := by decide +kernel
theorem dX1_turbineWithMostOutput_14 : decode cX1_turbineWithMostOutput 14 = .ok (.aload_n 0, 1) := by decide +kernel
theorem dX1_turbineWithMostOutput_15 : decode cX1_turbineWithMostOutput 15 = .ok (.iload_n 3, 1) := by decide +kernel
theorem dX1_turbineWithMostOutput_16 : decode cX1_turbineWithMostOutput 16 = .ok (.aload_n 0, 1) := by decide +kernel
theorem dX1_turbineWithMostOutput_17 : decode cX1_turbineWithMostOutput 17 = .ok (.getfield 39, 3) := by decide +kernel
theorem dX1_turbineWithMostOutput_20 : decode cX1_turbineWithMostOutput 20 = .ok (.aload_n 0, 1) := by decide +kernel
theorem dX1_turbineWithMostOutput_21 : decode cX1_turbineWithMostOutput 21 = .ok (.getfield 54, 3) := by decide +kernel
theorem dX1_turbineWithMostOutput_24 : decode cX1_turbineWithMostOutput 24 = .ok (.invokevirtual 123, 3) := by decide +kernel
theorem dX1_turbineWithMostOutput_27 : decode cX1_turbineWithMostOutput 27 = .ok (.istore 4, 2) := by decide +kernel
theorem dX1_turbineWithMostOutput_29 : decode cX1_turbineWithMostOutput 29 = .ok (.iload 4, 2) := by decide +kernel
theorem dX1_turbineWithMostOutput_31 : decode cX1_turbineWithMostOutput 31 = .ok (.iload_n 2, 1) := by decide +kernel
theorem dX1_turbineWithMostOutput_32 : decode cX1_turbineWithMostOutput 32 = .ok (.if_icmp .le 8, 3) := by decide +kernel
theorem dX1_turbineWithMostOutput_35 : decode cX1_turbineWithMostOutput 35 = .ok (.iload 4, 2) := by decide +kernel
theorem dX1_turbineWithMostOutput_37 : decode cX1_turbineWithMostOutput 37 = .ok (.istore_n 2, 1) := by decide +kernel
theorem dX1_turbineWithMostOutput_38 : decode cX1_turbineWithMostOutput 38 = .ok (.iload_n 3, 1) := by decide +kernel
theorem dX1_turbineWithMostOutput_39 : decode cX1_turbineWithMostOutput 39 = .ok (.istore_n 1, 1) := by decide +kernel
theorem dX1_turbineWithMostOutput_40 : decode cX1_turbineWithMostOutput 40 = .ok (.iinc 3 1, 3) := by decide +kernel
theorem dX1_turbineWithMostOutput_43 : decode cX1_turbineWithMostOutput 43 = .ok (.goto (-37), 3) := by decide +kernel
theorem dX1_turbineWithMostOutput_46 : decode cX1_turbineWithMostOutput 46 = .ok (.iload_n 1, 1) := by decide +kernel
theorem dX1_turbineWithMostOutput_47 : decode cX1_turbineWithMostOutput 47 = .ok (.ireturn, 1) := by decide +kernel
theorem dX1_endAllLimits_0 : decode cX1_endAllLimits 0 = .ok (.iconst 0, 1) := by decide +kernel
theorem dX1_endAllLimits_1 : decode cX1_endAllLimits 1 = .ok (.istore_n 1, 1) := by decide +kernel
theorem dX1_endAllLimits_2 : decode cX1_endAllLimits 2 = .ok (.iconst 0, 1) := by decide +kernel
theorem dX1_endAllLimits_3 : decode cX1_endAllLimits 3 = .ok (.istore_n 2, 1) := by decide +kernel
theorem dX1_endAllLimits_4 : decode cX1_endAllLimits 4 = .ok (.iload_n 2, 1) := by decide +kernel
theorem dX1_endAllLimits_5 : decode cX1_endAllLimits 5 = .ok (.aload_n 0, 1) := by decide +kernel
theorem dX1_endAllLimits_6 : decode cX1_endAllLimits 6 = .ok (.getfield 51, 3) := by decide +kernel
theorem dX1_endAllLimits_9 : decode cX1_endAllLimits 9 = .ok (.if_icmp .ge 29, 3) := by decide +kernel
theorem dX1_endAllLimits_12 : decode cX1_endAllLimits 12 = .ok (.aload_n 0, 1) := by decide +kernel
theorem dX1_endAllLimits_13 : decode cX1_endAllLimits 13 = .ok (.iload_n 2, 1) := by decide +kernel
theorem dX1_endAllLimits_14 : decode cX1_endAllLimits 14 = .ok (.invokevirtual 176, 3) := by decide +kernel
theorem dX1_endAllLimits_17 : decode cX1_endAllLimits 17 = .ok (.ifCond .eq 15, 3) := by decide +kernel
theorem dX1_endAllLimits_20 : decode cX1_endAllLimits 20 = .ok (.aload_n 0, 1) := by decide +kernel
theorem dX1_endAllLimits_21 : decode cX1_endAllLimits 21 = .ok (.getfield 24, 3) := by decide +kernel
theorem dX1_endAllLimits_24 : decode cX1_endAllLimits 24 = .ok (.iload_n 2, 1) := by decide +kernel
theorem dX1_endAllLimits_25 : decode cX1_endAllLimits 25 = .ok (.iconst (-1), 1) := by decide +kernel
theorem dX1_endAllLimits_26 : decode cX1_endAllLimits 26 = .ok (.invokestatic 226, 3) := by decide +kernel
theorem dX1_endAllLimits_29 : decode cX1_endAllLimits 29 = .ok (.iinc 1 1, 3) := by decide +kernel
theorem dX1_endAllLimits_32 : decode cX1_endAllLimits 32 = .ok (.iinc 2 1, 3) := by decide +kernel
theorem dX1_endAllLimits_35 : decode cX1_endAllLimits 35 = .ok (.goto (-31), 3) := by decide +kernel
theorem dX1_endAllLimits_38 : decode cX1_endAllLimits 38 = .ok (.iload_n 1, 1) := by decide +kernel
theorem dX1_endAllLimits_39 : decode cX1_endAllLimits 39 = .ok (.ireturn, 1) := by decide +kernel
theorem dX1_addBid_0 : decode cX1_addBid 0 = .ok (.aload_n 0, 1) := by decide +kernel
theorem dX1_addBid_1 : decode cX1_addBid 1 = .ok (.getfield 33, 3) := by decide +kernel
theorem dX1_addBid_4 : decode cX1_addBid 4 = .ok (.iload_n 1, 1) := by decide +kernel
theorem dX1_addBid_5 : decode cX1_addBid 5 = .ok (.iload_n 2, 1) := by decide +kernel
theorem dX1_addBid_6 : decode cX1_addBid 6 = .ok (.invokestatic 226, 3) := by decide +kernel
theorem dX1_addBid_9 : decode cX1_addBid 9 = .ok (.aload_n 0, 1) := by decide +kernel
theorem dX1_addBid_10 : decode cX1_addBid 10 = .ok (.getfield 36, 3) := by decide +kernel
theorem dX1_addBid_13 : decode cX1_addBid 13 = .ok (.iload_n 1, 1) := by decide +kernel
theorem dX1_addBid_14 : decode cX1_addBid 14 = .ok (.iload_n 3, 1) := by decide +kernel
theorem dX1_addBid_15 : decode cX1_addBid 15 = .ok (.invokestatic 226, 3) := by decide +kernel
theorem dX1_addBid_18 : decode cX1_addBid 18 = .ok (.aload_n 0, 1) := by decide +kernel
theorem dX1_addBid_19 : decode cX1_addBid 19 = .ok (.invokevirtual 183, 3) := by decide +kernel
theorem dX1_addBid_22 : decode cX1_addBid 22 = .ok (.ireturn, 1) := by decide +kernel
theorem dX1_removeBid_0 : decode cX1_removeBid 0 = .ok (.aload_n 0, 1) := by decide +kernel
theorem dX1_removeBid_1 : decode cX1_removeBid 1 = .ok (.getfield 36, 3) := by decide +kernel
theorem dX1_removeBid_4 : decode cX1_removeBid 4 = .ok (.iload_n 1, 1) := by decide +kernel
theorem dX1_removeBid_5 : decode cX1_removeBid 5 = .ok (.invokestatic 80, 3) := by decide +kernel
theorem dX1_removeBid_8 : decode cX1_removeBid 8 = .ok (.istore_n 2, 1) := by decide +kernel
theorem dX1_removeBid_9 : decode cX1_removeBid 9 = .ok (.aload_n 0, 1) := by decide +kernel
theorem dX1_removeBid_10 : decode cX1_removeBid 10 = .ok (.getfield 33, 3) := by decide +kernel
theorem dX1_removeBid_13 : decode cX1_removeBid 13 = .ok (.iload_n 1, 1) := by decide +kernel
theorem dX1_removeBid_14 : decode cX1_removeBid 14 = .ok (.iconst 0, 1) := by decide +kernel
theorem dX1_removeBid_15 : decode cX1_removeBid 15 = .ok (.invokestatic 226, 3) := by decide +kernel
theorem dX1_removeBid_18 : decode cX1_removeBid 18 = .ok (.aload_n 0, 1) := by decide +kernel
theorem dX1_removeBid_19 : decode cX1_removeBid 19 = .ok (.getfield 36, 3) := by decide +kernel
theorem dX1_removeBid_22 : decode cX1_removeBid 22 = .ok (.iload_n 1, 1) := by decide +kernel
theorem dX1_removeBid_23 : decode cX1_removeBid 23 = .ok (.iconst 0, 1) := by decide +kernel
theorem dX1_removeBid_24 : decode cX1_removeBid 24 = .ok (.invokestatic 226, 3) := by decide +kernel
theorem dX1_removeBid_27 : decode cX1_removeBid 27 = .ok (.iload_n 2, 1) := by decide +kernel
theorem dX1_removeBid_28 : decode cX1_removeBid 28 = .ok (.ireturn, 1) := by decide +kernel
theorem dX1_pass_0 : decode cX1_pass 0 = .ok (.aload_n 0, 1) := by decide +kernel
theorem dX1_pass_1 : decode cX1_pass 1 = .ok (.getfield 67, 3) := by decide +kernel
theorem dX1_pass_4 : decode cX1_pass 4 = .ok (.lstore_n 2, 1) := by decide +kernel
theorem dX1_pass_5 : decode cX1_pass 5 = .ok (.iconst 0, 1) := by decide +kernel
theorem dX1_pass_6 : decode cX1_pass 6 = .ok (.istore 4, 2) := by decide +kernel
theorem dX1_pass_8 : decode cX1_pass 8 = .ok (.iload 4, 2) := by decide +kernel
theorem dX1_pass_10 : decode cX1_pass 10 = .ok (.iload_n 1, 1) := by decide +kernel
theorem dX1_pass_11 : decode cX1_pass 11 = .ok (.if_icmp .ge 39, 3) := by decide +kernel
theorem dX1_pass_14 : decode cX1_pass 14 = .ok (.aload_n 0, 1) := by decide +kernel
theorem dX1_pass_15 : decode cX1_pass 15 = .ok (.aload_n 0, 1) := by decide +kernel
theorem dX1_pass_16 : decode cX1_pass 16 = .ok (.aload_n 0, 1) := by decide +kernel
theorem dX1_pass_17 : decode cX1_pass 17 = .ok (.getfield 39, 3) := by decide +kernel
theorem dX1_pass_20 : decode cX1_pass 20 = .ok (.aload_n 0, 1) := by decide +kernel
theorem dX1_pass_21 : decode cX1_pass 21 = .ok (.getfield 54, 3) := by decide +kernel
theorem dX1_pass_24 : decode cX1_pass 24 = .ok (.invokevirtual 233, 3) := by decide +kernel
theorem dX1_pass_27 : decode cX1_pass 27 = .ok (.invokevirtual 242, 3) := by decide +kernel
theorem dX1_pass_30 : decode cX1_pass 30 = .ok (.aload_n 0, 1) := by decide +kernel
theorem dX1_pass_31 : decode cX1_pass 31 = .ok (.invokevirtual 246, 3) := by decide +kernel
theorem dX1_pass_34 : decode cX1_pass 34 = .ok (.aload_n 0, 1) := by decide +kernel
theorem dX1_pass_35 : decode cX1_pass 35 = .ok (.dup, 1) := by decide +kernel
theorem dX1_pass_36 : decode cX1_pass 36 = .ok (.getfield 57, 3) := by decide +kernel
theorem dX1_pass_39 : decode cX1_pass 39 = .ok (.iconst 1, 1) := by decide +kernel
theorem dX1_pass_40 : decode cX1_pass 40 = .ok (.iadd, 1) := by decide +kernel
theorem dX1_pass_41 : decode cX1_pass 41 = .ok (.putfield 57, 3) := by decide +kernel
theorem dX1_pass_44 : decode cX1_pass 44 = .ok (.iinc 4 1, 3) := by decide +kernel
theorem dX1_pass_47 : decode cX1_pass 47 = .ok (.goto (-39), 3) := by decide +kernel
theorem dX1_pass_50 : decode cX1_pass 50 = .ok (.aload_n 0, 1) := by decide +kernel
theorem dX1_pass_51 : decode cX1_pass 51 = .ok (.getfield 67, 3) := by decide +kernel
theorem dX1_pass_54 : decode cX1_pass 54 = .ok (.lload_n 2, 1) := by decide +kernel
theorem dX1_pass_55 : decode cX1_pass 55 = .ok (.lsub, 1) := by decide +kernel
theorem dX1_pass_56 : decode cX1_pass 56 = .ok (.l2i, 1) := by decide +kernel
theorem dX1_pass_57 : decode cX1_pass 57 = .ok (.ireturn, 1) := by decide +kernel
theorem dX1_account_0 : decode cX1_account 0 = .ok (.aload_n 0, 1) := by decide +kernel
theorem dX1_account_1 : decode cX1_account 1 = .ok (.getfield 57, 3) := by decide +kernel
theorem dX1_account_4 : decode cX1_account 4 = .ok (.bipush 24, 2) := by decide +kernel
theorem dX1_account_6 : decode cX1_account 6 = .ok (.irem, 1) := by decide +kernel
theorem dX1_account_7 : decode cX1_account 7 = .ok (.istore_n 2, 1) := by decide +kernel
theorem dX1_account_8 : decode cX1_account 8 = .ok (.aload_n 0, 1) := by decide +kernel
theorem dX1_account_9 : decode cX1_account 9 = .ok (.getfield 36, 3) := by decide +kernel
theorem dX1_account_12 : decode cX1_account 12 = .ok (.iload_n 2, 1) := by decide +kernel
theorem dX1_account_13 : decode cX1_account 13 = .ok (.invokestatic 80, 3) := by decide +kernel
theorem dX1_account_16 : decode cX1_account 16 = .ok (.istore_n 3, 1) := by decide +kernel
theorem dX1_account_17 : decode cX1_account 17 = .ok (.iload_n 1, 1) := by decide +kernel
theorem dX1_account_18 : decode cX1_account 18 = .ok (.bipush 20, 2) := by decide +kernel
theorem dX1_account_20 : decode cX1_account 20 = .ok (.idiv, 1) := by decide +kernel
theorem dX1_account_21 : decode cX1_account 21 = .ok (.istore 4, 2) := by decide +kernel
theorem dX1_account_23 : decode cX1_account 23 = .ok (.iload_n 1, 1) := by decide +kernel
theorem dX1_account_24 : decode cX1_account 24 = .ok (.iload 4, 2) := by decide +kernel
theorem dX1_account_26 : decode cX1_account 26 = .ok (.isub, 1) := by decide +kernel
theorem dX1_account_27 : decode cX1_account 27 = .ok (.iload_n 3, 1) := by decide +kernel
theorem dX1_account_28 : decode cX1_account 28 = .ok (.invokestatic 107, 3) := by decide +kernel
theorem dX1_account_31 : decode cX1_account 31 = .ok (.istore 5, 2) := by decide +kernel
theorem dX1_account_33 : decode cX1_account 33 = .ok (.iload_n 3, 1) := by decide +kernel
theorem dX1_account_34 : decode cX1_account 34 = .ok (.iload 5, 2) := by decide +kernel
theorem dX1_account_36 : decode cX1_account 36 = .ok (.isub, 1) := by decide +kernel
theorem dX1_account_37 : decode cX1_account 37 = .ok (.istore 6, 2) := by decide +kernel
theorem dX1_account_39 : decode cX1_account 39 = .ok (.aload_n 0, 1) := by decide +kernel
theorem dX1_account_40 : decode cX1_account 40 = .ok (.dup, 1) := by decide +kernel
theorem dX1_account_41 : decode cX1_account 41 = .ok (.getfield 60, 3) := by decide +kernel
theorem dX1_account_44 : decode cX1_account 44 = .ok (.iload_n 1, 1) := by decide +kernel
theorem dX1_account_45 : decode cX1_account 45 = .ok (.i2l, 1) := by decide +kernel
theorem dX1_account_46 : decode cX1_account 46 = .ok (.ladd, 1) := by decide +kernel
theorem dX1_account_47 : decode cX1_account 47 = .ok (.putfield 60, 3) := by decide +kernel
theorem dX1_account_50 : decode cX1_account 50 = .ok (.aload_n 0, 1) := by decide +kernel
theorem dX1_account_51 : decode cX1_account 51 = .ok (.dup, 1) := by decide +kernel
theorem dX1_account_52 : decode cX1_account 52 = .ok (.getfield 64, 3) := by decide +kernel
theorem dX1_account_55 : decode cX1_account 55 = .ok (.iload 4, 2) := by decide +kernel
theorem dX1_account_57 : decode cX1_account 57 = .ok (.i2l, 1) := by decide +kernel
theorem dX1_account_58 : decode cX1_account 58 = .ok (.ladd, 1) := by decide +kernel
theorem dX1_account_59 : decode cX1_account 59 = .ok (.putfield 64, 3) := by decide +kernel
theorem dX1_account_62 : decode cX1_account 62 = .ok (.aload_n 0, 1) := by decide +kernel
theorem dX1_account_63 : decode cX1_account 63 = .ok (.dup, 1) := by decide +kernel
theorem dX1_account_64 : decode cX1_account 64 = .ok (.getfield 67, 3) := by decide +kernel
theorem dX1_account_67 : decode cX1_account 67 = .ok (.iload 5, 2) := by decide +kernel
theorem dX1_account_69 : decode cX1_account 69 = .ok (.i2l, 1) := by decide +kernel
theorem dX1_account_70 : decode cX1_account 70 = .ok (.ladd, 1) := by decide +kernel
theorem dX1_account_71 : decode cX1_account 71 = .ok (.putfield 67, 3) := by decide +kernel
theorem dX1_account_74 : decode cX1_account 74 = .ok (.aload_n 0, 1) := by decide +kernel
theorem dX1_account_75 : decode cX1_account 75 = .ok (.dup, 1) := by decide +kernel
theorem dX1_account_76 : decode cX1_account 76 = .ok (.getfield 70, 3) := by decide +kernel
theorem dX1_account_79 : decode cX1_account 79 = .ok (.iload_n 1, 1) := by decide +kernel
theorem dX1_account_80 : decode cX1_account 80 = .ok (.iload 4, 2) := by decide +kernel
theorem dX1_account_82 : decode cX1_account 82 = .ok (.isub, 1) := by decide +kernel
theorem dX1_account_83 : decode cX1_account 83 = .ok (.iload 5, 2) := by decide +kernel
theorem dX1_account_85 : decode cX1_account 85 = .ok (.isub, 1) := by decide +kernel
theorem dX1_account_86 : decode cX1_account 86 = .ok (.i2l, 1) := by decide +kernel
theorem dX1_account_87 : decode cX1_account 87 = .ok (.ladd, 1) := by decide +kernel
theorem dX1_account_88 : decode cX1_account 88 = .ok (.putfield 70, 3) := by decide +kernel
theorem dX1_account_91 : decode cX1_account 91 = .ok (.aload_n 0, 1) := by decide +kernel
theorem dX1_account_92 : decode cX1_account 92 = .ok (.dup, 1) := by decide +kernel
theorem dX1_account_93 : decode cX1_account 93 = .ok (.getfield 73, 3) := by decide +kernel
theorem dX1_account_96 : decode cX1_account 96 = .ok (.aload_n 0, 1) := by decide +kernel
theorem dX1_account_97 : decode cX1_account 97 = .ok (.getfield 33, 3) := by decide +kernel
theorem dX1_account_100 : decode cX1_account 100 = .ok (.iload_n 2, 1) := by decide +kernel
theorem dX1_account_101 : decode cX1_account 101 = .ok (.invokestatic 80, 3) := by decide +kernel
theorem dX1_account_104 : decode cX1_account 104 = .ok (.iload 5, 2) := by decide +kernel
theorem dX1_account_106 : decode cX1_account 106 = .ok (.iload 6, 2) := by decide +kernel
theorem dX1_account_108 : decode cX1_account 108 = .ok (.isub, 1) := by decide +kernel
theorem dX1_account_109 : decode cX1_account 109 = .ok (.imul, 1) := by decide +kernel
theorem dX1_account_110 : decode cX1_account 110 = .ok (.i2l, 1) := by decide +kernel
theorem dX1_account_111 : decode cX1_account 111 = .ok (.ladd, 1) := by decide +kernel
theorem dX1_account_112 : decode cX1_account 112 = .ok (.putfield 73, 3) := by decide +kernel
theorem dX1_account_115 : decode cX1_account 115 = .ok (.return_, 1) := by decide +kernel
theorem dX1_workOnServices_0 : decode cX1_workOnServices 0 = .ok (.iconst 0, 1) := by decide +kernel
theorem dX1_workOnServices_1 : decode cX1_workOnServices 1 = .ok (.istore_n 1, 1) := by decide +kernel
theorem dX1_workOnServices_2 : decode cX1_workOnServices 2 = .ok (.iload_n 1, 1) := by decide +kernel
theorem dX1_workOnServices_3 : decode cX1_workOnServices 3 = .ok (.aload_n 0, 1) := by decide +kernel
theorem dX1_workOnServices_4 : decode cX1_workOnServices 4 = .ok (.getfield 51, 3) := by decide +kernel
theorem dX1_workOnServices_7 : decode cX1_workOnServices 7 = .ok (.if_icmp .ge 51, 3) := by decide +kernel
theorem dX1_workOnServices_10 : decode cX1_workOnServices 10 = .ok (.aload_n 0, 1) := by decide +kernel
theorem dX1_workOnServices_11 : decode cX1_workOnServices 11 = .ok (.iload_n 1, 1) := by decide +kernel
theorem dX1_workOnServices_12 : decode cX1_workOnServices 12 = .ok (.iconst 3, 1) := by decide +kernel
theorem dX1_workOnServices_13 : decode cX1_workOnServices 13 = .ok (.invokevirtual 84, 3) := by decide +kernel
theorem dX1_workOnServices_16 : decode cX1_workOnServices 16 = .ok (.ifCond .eq 36, 3) := by decide +kernel
theorem dX1_workOnServices_19 : decode cX1_workOnServices 19 = .ok (.aload_n 0, 1) := by decide +kernel
theorem dX1_workOnServices_20 : decode cX1_workOnServices 20 = .ok (.getfield 27, 3) := by decide +kernel
theorem dX1_workOnServices_23 : decode cX1_workOnServices 23 = .ok (.iload_n 1, 1) := by decide +kernel
theorem dX1_workOnServices_24 : decode cX1_workOnServices 24 = .ok (.invokestatic 80, 3) := by decide +kernel
theorem dX1_workOnServices_27 : decode cX1_workOnServices 27 = .ok (.iconst 1, 1) := by decide +kernel
theorem dX1_workOnServices_28 : decode cX1_workOnServices 28 = .ok (.isub, 1) := by decide +kernel
theorem dX1_workOnServices_29 : decode cX1_workOnServices 29 = .ok (.istore_n 2, 1) := by decide +kernel
theorem dX1_workOnServices_30 : decode cX1_workOnServices 30 = .ok (.aload_n 0, 1) := by decide +kernel
theorem dX1_workOnServices_31 : decode cX1_workOnServices 31 = .ok (.getfield 27, 3) := by decide +kernel
theorem dX1_workOnServices_34 : decode cX1_workOnServices 34 = .ok (.iload_n 1, 1) := by decide +kernel
theorem dX1_workOnServices_35 : decode cX1_workOnServices 35 = .ok (.iload_n 2, 1) := by decide +kernel
theorem dX1_workOnServices_36 : decode cX1_workOnServices 36 = .ok (.invokestatic 226, 3) := by decide +kernel
theorem dX1_workOnServices_39 : decode cX1_workOnServices 39 = .ok (.iload_n 2, 1) := by decide +kernel
theorem dX1_workOnServices_40 : decode cX1_workOnServices 40 = .ok (.ifCond .ne 12, 3) := by decide +kernel
theorem dX1_workOnServices_43 : decode cX1_workOnServices 43 = .ok (.aload_n 0, 1) := by decide +kernel
theorem dX1_workOnServices_44 : decode cX1_workOnServices 44 = .ok (.getfield 21, 3) := by decide +kernel
theorem dX1_workOnServices_47 : decode cX1_workOnServices 47 = .ok (.iload_n 1, 1) := by decide +kernel
theorem dX1_workOnServices_48 : decode cX1_workOnServices 48 = .ok (.iconst 1, 1) := by decide +kernel
theorem dX1_workOnServices_49 : decode cX1_workOnServices 49 = .ok (.invokestatic 226, 3) := by decide +kernel
theorem dX1_workOnServices_52 : decode cX1_workOnServices 52 = .ok (.iinc 1 1, 3) := by decide +kernel
theorem dX1_workOnServices_55 : decode cX1_workOnServices 55 = .ok (.goto (-53), 3) := by decide +kernel
theorem dX1_workOnServices_58 : decode cX1_workOnServices 58 = .ok (.return_, 1) := by decide +kernel
theorem dX2_init_0 : decode cX2_init 0 = .ok (.aload_n 0, 1) := by decide +kernel
theorem dX2_init_1 : decode cX2_init 1 = .ok (.invokespecial 3, 3) := by decide +kernel
theorem dX2_init_4 : decode cX2_init 4 = .ok (.aload_n 0, 1) := by decide +kernel
theorem dX2_init_5 : decode cX2_init 5 = .ok (.bipush 8, 2) := by decide +kernel
theorem dX2_init_7 : decode cX2_init 7 = .ok (.anewarray 9, 3) := by decide +kernel
theorem dX2_init_10 : decode cX2_init 10 = .ok (.putfield 11, 3) := by decide +kernel
theorem dX2_init_13 : decode cX2_init 13 = .ok (.iconst 0, 1) := by decide +kernel
theorem dX2_init_14 : decode cX2_init 14 = .ok (.istore_n 1, 1) := by decide +kernel
theorem dX2_init_15 : decode cX2_init 15 = .ok (.iload_n 1, 1) := by decide +kernel
theorem dX2_init_16 : decode cX2_init 16 = .ok (.aload_n 0, 1) := by decide +kernel
theorem dX2_init_17 : decode cX2_init 17 = .ok (.getfield 11, 3) := by decide +kernel
theorem dX2_init_20 : decode cX2_init 20 = .ok (.arraylength, 1) := by decide +kernel
theorem dX2_init_21 : decode cX2_init 21 = .ok (.if_icmp .ge 22, 3) := by decide +kernel
theorem dX2_init_24 : decode cX2_init 24 = .ok (.aload_n 0, 1) := by decide +kernel
theorem dX2_init_25 : decode cX2_init 25 = .ok (.getfield 11, 3) := by decide +kernel
theorem dX2_init_28 : decode cX2_init 28 = .ok (.iload_n 1, 1) := by decide +kernel
theorem dX2_init_29 : decode cX2_init 29 = .ok (.new 9, 3) := by decide +kernel
theorem dX2_init_32 : decode cX2_init 32 = .ok (.dup, 1) := by decide +kernel
theorem dX2_init_33 : decode cX2_init 33 = .ok (.invokespecial 17, 3) := by decide +kernel
theorem dX2_init_36 : decode cX2_init 36 = .ok (.aastore, 1) := by decide +kernel
theorem dX2_init_37 : decode cX2_init 37 = .ok (.iinc 1 1, 3) := by decide +kernel
theorem dX2_init_40 : decode cX2_init 40 = .ok (.goto (-25), 3) := by decide +kernel
theorem dX2_init_43 : decode cX2_init 43 = .ok (.return_, 1) := by decide +kernel
theorem dX2_keep_0 : decode cX2_keep 0 = .ok (.aload_n 0, 1) := by decide +kernel
theorem dX2_keep_1 : decode cX2_keep 1 = .ok (.aload_n 0, 1) := by decide +kernel
theorem dX2_keep_2 : decode cX2_keep 2 = .ok (.getfield 18, 3) := by decide +kernel
theorem dX2_keep_5 : decode cX2_keep 5 = .ok (.invokevirtual 22, 3) := by decide +kernel
theorem dX2_keep_8 : decode cX2_keep 8 = .ok (.astore_n 2, 1) := by decide +kernel
theorem dX2_keep_9 : decode cX2_keep 9 = .ok (.aload_n 2, 1) := by decide +kernel
theorem dX2_keep_10 : decode cX2_keep 10 = .ok (.ifnull 36, 3) := by decide +kernel
theorem dX2_keep_13 : decode cX2_keep 13 = .ok (.aload_n 2, 1) := by decide +kernel
theorem dX2_keep_14 : decode cX2_keep 14 = .ok (.aload_n 1, 1) := by decide +kernel
theorem dX2_keep_15 : decode cX2_keep 15 = .ok (.invokevirtual 26, 3) := by decide +kernel
theorem dX2_keep_18 : decode cX2_keep 18 = .ok (.aload_n 0, 1) := by decide +kernel
theorem dX2_keep_19 : decode cX2_keep 19 = .ok (.aload_n 0, 1) := by decide +kernel
theorem dX2_keep_20 : decode cX2_keep 20 = .ok (.getfield 18, 3) := by decide +kernel
theorem dX2_keep_23 : decode cX2_keep 23 = .ok (.iconst 1, 1) := by decide +kernel
theorem dX2_keep_24 : decode cX2_keep 24 = .ok (.iadd, 1) := by decide +kernel
theorem dX2_keep_25 : decode cX2_keep 25 = .ok (.bipush 8, 2) := by decide +kernel
theorem dX2_keep_27 : decode cX2_keep 27 = .ok (.irem, 1) := by decide +kernel
theorem dX2_keep_28 : decode cX2_keep 28 = .ok (.putfield 18, 3) := by decide +kernel
theorem dX2_keep_31 : decode cX2_keep 31 = .ok (.aload_n 0, 1) := by decide +kernel
theorem dX2_keep_32 : decode cX2_keep 32 = .ok (.aload_n 0, 1) := by decide +kernel
theorem dX2_keep_33 : decode cX2_keep 33 = .ok (.getfield 30, 3) := by decide +kernel
theorem dX2_keep_36 : decode cX2_keep 36 = .ok (.iconst 1, 1) := by decide +kernel
theorem dX2_keep_37 : decode cX2_keep 37 = .ok (.iadd, 1) := by decide +kernel
theorem dX2_keep_38 : decode cX2_keep 38 = .ok (.bipush 8, 2) := by decide +kernel
theorem dX2_keep_40 : decode cX2_keep 40 = .ok (.invokestatic 33, 3) := by decide +kernel
theorem dX2_keep_43 : decode cX2_keep 43 = .ok (.putfield 30, 3) := by decide +kernel
theorem dX2_keep_46 : decode cX2_keep 46 = .ok (.return_, 1) := by decide +kernel
theorem dX2_takeBack_0 : decode cX2_takeBack 0 = .ok (.aload_n 0, 1) := by decide +kernel
theorem dX2_takeBack_1 : decode cX2_takeBack 1 = .ok (.getfield 18, 3) := by decide +kernel
theorem dX2_takeBack_4 : decode cX2_takeBack 4 = .ok (.bipush 8, 2) := by decide +kernel
theorem dX2_takeBack_6 : decode cX2_takeBack 6 = .ok (.iadd, 1) := by decide +kernel
theorem dX2_takeBack_7 : decode cX2_takeBack 7 = .ok (.iconst 1, 1) := by decide +kernel
theorem dX2_takeBack_8 : decode cX2_takeBack 8 = .ok (.isub, 1) := by decide +kernel
theorem dX2_takeBack_9 : decode cX2_takeBack 9 = .ok (.bipush 8, 2) := by decide +kernel
theorem dX2_takeBack_11 : decode cX2_takeBack 11 = .ok (.irem, 1) := by decide +kernel
theorem dX2_takeBack_12 : decode cX2_takeBack 12 = .ok (.istore_n 2, 1) := by decide +kernel
theorem dX2_takeBack_13 : decode cX2_takeBack 13 = .ok (.aload_n 0, 1) := by decide +kernel
theorem dX2_takeBack_14 : decode cX2_takeBack 14 = .ok (.iload_n 2, 1) := by decide +kernel
theorem dX2_takeBack_15 : decode cX2_takeBack 15 = .ok (.invokevirtual 22, 3) := by decide +kernel
theorem dX2_takeBack_18 : decode cX2_takeBack 18 = .ok (.astore_n 3, 1) := by decide +kernel
theorem dX2_takeBack_19 : decode cX2_takeBack 19 = .ok (.aload_n 3, 1) := by decide +kernel
theorem dX2_takeBack_20 : decode cX2_takeBack 20 = .ok (.ifnull 30, 3) := by decide +kernel
theorem dX2_takeBack_23 : decode cX2_takeBack 23 = .ok (.aload_n 0, 1) := by decide +kernel
theorem dX2_takeBack_24 : decode cX2_takeBack 24 = .ok (.getfield 30, 3) := by decide +kernel
theorem dX2_takeBack_27 : decode cX2_takeBack 27 = .ok (.ifCond .le 23, 3) := by decide +kernel
theorem dX2_takeBack_30 : decode cX2_takeBack 30 = .ok (.aload_n 1, 1) := by decide +kernel
theorem dX2_takeBack_31 : decode cX2_takeBack 31 = .ok (.aload_n 3, 1) := by decide +kernel
theorem dX2_takeBack_32 : decode cX2_takeBack 32 = .ok (.invokevirtual 26, 3) := by decide +kernel
theorem dX2_takeBack_35 : decode cX2_takeBack 35 = .ok (.aload_n 0, 1) := by decide +kernel
theorem dX2_takeBack_36 : decode cX2_takeBack 36 = .ok (.iload_n 2, 1) := by decide +kernel
theorem dX2_takeBack_37 : decode cX2_takeBack 37 = .ok (.putfield 18, 3) := by decide +kernel
theorem dX2_takeBack_40 : decode cX2_takeBack 40 = .ok (.aload_n 0, 1) := by decide +kernel
theorem dX2_takeBack_41 : decode cX2_takeBack 41 = .ok (.dup, 1) := by decide +kernel
theorem dX2_takeBack_42 : decode cX2_takeBack 42 = .ok (.getfield 30, 3) := by decide +kernel
theorem dX2_takeBack_45 : decode cX2_takeBack 45 = .ok (.iconst 1, 1) := by decide +kernel
theorem dX2_takeBack_46 : decode cX2_takeBack 46 = .ok (.isub, 1) := by decide +kernel
theorem dX2_takeBack_47 : decode cX2_takeBack 47 = .ok (.putfield 30, 3) := by decide +kernel
theorem dX2_takeBack_50 : decode cX2_takeBack 50 = .ok (.return_, 1) := by decide +kernel
theorem dX2_forget_0 : decode cX2_forget 0 = .ok (.aload_n 0, 1) := by decide +kernel
theorem dX2_forget_1 : decode cX2_forget 1 = .ok (.iconst 0, 1) := by decide +kernel
theorem dX2_forget_2 : decode cX2_forget 2 = .ok (.putfield 30, 3) := by decide +kernel
theorem dX2_forget_5 : decode cX2_forget 5 = .ok (.return_, 1) := by decide +kernel
theorem dX2_farmAt_0 : decode cX2_farmAt 0 = .ok (.iload_n 1, 1) := by decide +kernel
theorem dX2_farmAt_1 : decode cX2_farmAt 1 = .ok (.ifCond .lt 21, 3) := by decide +kernel
theorem dX2_farmAt_4 : decode cX2_farmAt 4 = .ok (.iload_n 1, 1) := by decide +kernel
theorem dX2_farmAt_5 : decode cX2_farmAt 5 = .ok (.aload_n 0, 1) := by decide +kernel
theorem dX2_farmAt_6 : decode cX2_farmAt 6 = .ok (.getfield 11, 3) := by decide +kernel
theorem dX2_farmAt_9 : decode cX2_farmAt 9 = .ok (.arraylength, 1) := by decide +kernel
theorem dX2_farmAt_10 : decode cX2_farmAt 10 = .ok (.if_icmp .ge 12, 3) := by decide +kernel
theorem dX2_farmAt_13 : decode cX2_farmAt 13 = .ok (.aload_n 0, 1) := by decide +kernel
theorem dX2_farmAt_14 : decode cX2_farmAt 14 = .ok (.getfield 11, 3) := by decide +kernel
theorem dX2_farmAt_17 : decode cX2_farmAt 17 = .ok (.iload_n 1, 1) := by decide +kernel
theorem dX2_farmAt_18 : decode cX2_farmAt 18 = .ok (.aaload, 1) := by decide +kernel
theorem dX2_farmAt_19 : decode cX2_farmAt 19 = .ok (.goto 4, 3) := by decide +kernel
theorem dX2_farmAt_22 : decode cX2_farmAt 22 = .ok (.aconst_null, 1) := by decide +kernel
theorem dX2_farmAt_23 : decode cX2_farmAt 23 = .ok (.areturn, 1) := by decide +kernel
theorem dX3_init_0 : decode cX3_init 0 = .ok (.aload_n 0, 1) := by decide +kernel
theorem dX3_init_1 : decode cX3_init 1 = .ok (.invokespecial 3, 3) := by decide +kernel
theorem dX3_init_4 : decode cX3_init 4 = .ok (.aload_n 0, 1) := by decide +kernel
theorem dX3_init_5 : decode cX3_init 5 = .ok (.bipush 60, 2) := by decide +kernel
theorem dX3_init_7 : decode cX3_init 7 = .ok (.newarray .char, 2) := by decide +kernel
theorem dX3_init_9 : decode cX3_init 9 = .ok (.putfield 9, 3) := by decide +kernel
theorem dX3_init_12 : decode cX3_init 12 = .ok (.return_, 1) := by decide +kernel
theorem dX3_clear_0 : decode cX3_clear 0 = .ok (.aload_n 0, 1) := by decide +kernel
theorem dX3_clear_1 : decode cX3_clear 1 = .ok (.iconst 0, 1) := by decide +kernel
theorem dX3_clear_2 : decode cX3_clear 2 = .ok (.putfield 15, 3) := by decide +kernel
theorem dX3_clear_5 : decode cX3_clear 5 = .ok (.return_, 1) := by decide +kernel
theorem dX3_add_0 : decode cX3_add 0 = .ok (.aload_n 0, 1) := by decide +kernel
theorem dX3_add_1 : decode cX3_add 1 = .ok (.getfield 15, 3) := by decide +kernel
theorem dX3_add_4 : decode cX3_add 4 = .ok (.ifCond .lt 35, 3) := by decide +kernel
theorem dX3_add_7 : decode cX3_add 7 = .ok (.aload_n 0, 1) := by decide +kernel
theorem dX3_add_8 : decode cX3_add 8 = .ok (.getfield 15, 3) := by decide +kernel
theorem dX3_add_11 : decode cX3_add 11 = .ok (.aload_n 0, 1) := by decide +kernel
theorem dX3_add_12 : decode cX3_add 12 = .ok (.getfield 9, 3) := by decide +kernel
theorem dX3_add_15 : decode cX3_add 15 = .ok (.arraylength, 1) := by decide +kernel
theorem dX3_add_16 : decode cX3_add 16 = .ok (.if_icmp .ge 23, 3) := by decide +kernel
theorem dX3_add_19 : decode cX3_add 19 = .ok (.aload_n 0, 1) := by decide +kernel
theorem dX3_add_20 : decode cX3_add 20 = .ok (.getfield 9, 3) := by decide +kernel
theorem dX3_add_23 : decode cX3_add 23 = .ok (.aload_n 0, 1) := by decide +kernel
theorem dX3_add_24 : decode cX3_add 24 = .ok (.getfield 15, 3) := by decide +kernel
theorem dX3_add_27 : decode cX3_add 27 = .ok (.iload_n 1, 1) := by decide +kernel
theorem dX3_add_28 : decode cX3_add 28 = .ok (.castore, 1) := by decide +kernel
theorem dX3_add_29 : decode cX3_add 29 = .ok (.aload_n 0, 1) := by decide +kernel
theorem dX3_add_30 : decode cX3_add 30 = .ok (.dup, 1) := by decide +kernel
theorem dX3_add_31 : decode cX3_add 31 = .ok (.getfield 15, 3) := by decide +kernel
theorem dX3_add_34 : decode cX3_add 34 = .ok (.iconst 1, 1) := by decide +kernel
theorem dX3_add_35 : decode cX3_add 35 = .ok (.iadd, 1) := by decide +kernel
theorem dX3_add_36 : decode cX3_add 36 = .ok (.putfield 15, 3) := by decide +kernel
theorem dX3_add_39 : decode cX3_add 39 = .ok (.return_, 1) := by decide +kernel
theorem dX3_addNumber_0 : decode cX3_addNumber 0 = .ok (.iload_n 1, 1) := by decide +kernel
theorem dX3_addNumber_1 : decode cX3_addNumber 1 = .ok (.bipush 10, 2) := by decide +kernel
theorem dX3_addNumber_3 : decode cX3_addNumber 3 = .ok (.if_icmp .lt 18, 3) := by decide +kernel
theorem dX3_addNumber_6 : decode cX3_addNumber 6 = .ok (.aload_n 0, 1) := by decide +kernel
theorem dX3_addNumber_7 : decode cX3_addNumber 7 = .ok (.bipush 48, 2) := by decide +kernel
theorem dX3_addNumber_9 : decode cX3_addNumber 9 = .ok (.iload_n 1, 1) := by decide +kernel
theorem dX3_addNumber_10 : decode cX3_addNumber 10 = .ok (.bipush 10, 2) := by decide +kernel
theorem dX3_addNumber_12 : decode cX3_addNumber 12 = .ok (.idiv, 1) := by decide +kernel
theorem dX3_addNumber_13 : decode cX3_addNumber 13 = .ok (.bipush 10, 2) := by decide +kernel
theorem dX3_addNumber_15 : decode cX3_addNumber 15 = .ok (.irem, 1) := by decide +kernel
theorem dX3_addNumber_16 : decode cX3_addNumber 16 = .ok (.iadd, 1) := by decide +kernel
theorem dX3_addNumber_17 : decode cX3_addNumber 17 = .ok (.i2c, 1) := by decide +kernel
theorem dX3_addNumber_18 : decode cX3_addNumber 18 = .ok (.invokevirtual 19, 3) := by decide +kernel
theorem dX3_addNumber_21 : decode cX3_addNumber 21 = .ok (.aload_n 0, 1) := by decide +kernel
theorem dX3_addNumber_22 : decode cX3_addNumber 22 = .ok (.bipush 48, 2) := by decide +kernel
theorem dX3_addNumber_24 : decode cX3_addNumber 24 = .ok (.iload_n 1, 1) := by decide +kernel
theorem dX3_addNumber_25 : decode cX3_addNumber 25 = .ok (.bipush 10, 2) := by decide +kernel
theorem dX3_addNumber_27 : decode cX3_addNumber 27 = .ok (.irem, 1) := by decide +kernel
theorem dX3_addNumber_28 : decode cX3_addNumber 28 = .ok (.iadd, 1) := by decide +kernel
theorem dX3_addNumber_29 : decode cX3_addNumber 29 = .ok (.i2c, 1) := by decide +kernel
theorem dX3_addNumber_30 : decode cX3_addNumber 30 = .ok (.invokevirtual 19, 3) := by decide +kernel
theorem dX3_addNumber_33 : decode cX3_addNumber 33 = .ok (.return_, 1) := by decide +kernel
theorem dX3_signAt_0 : decode cX3_signAt 0 = .ok (.iload_n 1, 1) := by decide +kernel
theorem dX3_signAt_1 : decode cX3_signAt 1 = .ok (.ifCond .lt 29, 3) := by decide +kernel
theorem dX3_signAt_4 : decode cX3_signAt 4 = .ok (.iload_n 1, 1) := by decide +kernel
theorem dX3_signAt_5 : decode cX3_signAt 5 = .ok (.aload_n 0, 1) := by decide +kernel
theorem dX3_signAt_6 : decode cX3_signAt 6 = .ok (.getfield 15, 3) := by decide +kernel
theorem dX3_signAt_9 : decode cX3_signAt 9 = .ok (.if_icmp .ge 21, 3) := by decide +kernel
theorem dX3_signAt_12 : decode cX3_signAt 12 = .ok (.iload_n 1, 1) := by decide +kernel
theorem dX3_signAt_13 : decode cX3_signAt 13 = .ok (.aload_n 0, 1) := by decide +kernel
theorem dX3_signAt_14 : decode cX3_signAt 14 = .ok (.getfield 9, 3) := by decide +kernel
theorem dX3_signAt_17 : decode cX3_signAt 17 = .ok (.arraylength, 1) := by decide +kernel
theorem dX3_signAt_18 : decode cX3_signAt 18 = .ok (.if_icmp .ge 12, 3) := by decide +kernel
theorem dX3_signAt_21 : decode cX3_signAt 21 = .ok (.aload_n 0, 1) := by decide +kernel
theorem dX3_signAt_22 : decode cX3_signAt 22 = .ok (.getfield 9, 3) := by decide +kernel
theorem dX3_signAt_25 : decode cX3_signAt 25 = .ok (.iload_n 1, 1) := by decide +kernel
theorem dX3_signAt_26 : decode cX3_signAt 26 = .ok (.caload, 1) := by decide +kernel
theorem dX3_signAt_27 : decode cX3_signAt 27 = .ok (.goto 4, 3) := by decide +kernel
theorem dX3_signAt_30 : decode cX3_signAt 30 = .ok (.iconst 0, 1) := by decide +kernel
theorem dX3_signAt_31 : decode cX3_signAt 31 = .ok (.ireturn, 1) := by decide +kernel
theorem dX4_init_0 : decode cX4_init 0 = .ok (.aload_n 0, 1) := by decide +kernel
theorem dX4_init_1 : decode cX4_init 1 = .ok (.invokespecial 1, 3) := by decide +kernel
theorem dX4_init_4 : decode cX4_init 4 = .ok (.aload_n 0, 1) := by decide +kernel
theorem dX4_init_5 : decode cX4_init 5 = .ok (.new 7, 3) := by decide +kernel
theorem dX4_init_8 : decode cX4_init 8 = .ok (.dup, 1) := by decide +kernel
theorem dX4_init_9 : decode cX4_init 9 = .ok (.invokespecial 9, 3) := by decide +kernel
theorem dX4_init_12 : decode cX4_init 12 = .ok (.putfield 10, 3) := by decide +kernel
theorem dX4_init_15 : decode cX4_init 15 = .ok (.aload_n 0, 1) := by decide +kernel
theorem dX4_init_16 : decode cX4_init 16 = .ok (.new 7, 3) := by decide +kernel
theorem dX4_init_19 : decode cX4_init 19 = .ok (.dup, 1) := by decide +kernel
theorem dX4_init_20 : decode cX4_init 20 = .ok (.invokespecial 9, 3) := by decide +kernel
theorem dX4_init_23 : decode cX4_init 23 = .ok (.putfield 16, 3) := by decide +kernel
theorem dX4_init_26 : decode cX4_init 26 = .ok (.aload_n 0, 1) := by decide +kernel
theorem dX4_init_27 : decode cX4_init 27 = .ok (.new 7, 3) := by decide +kernel
theorem dX4_init_30 : decode cX4_init 30 = .ok (.dup, 1) := by decide +kernel
theorem dX4_init_31 : decode cX4_init 31 = .ok (.invokespecial 9, 3) := by decide +kernel
theorem dX4_init_34 : decode cX4_init 34 = .ok (.putfield 19, 3) := by decide +kernel
theorem dX4_init_37 : decode cX4_init 37 = .ok (.aload_n 0, 1) := by decide +kernel
theorem dX4_init_38 : decode cX4_init 38 = .ok (.new 22, 3) := by decide +kernel
theorem dX4_init_41 : decode cX4_init 41 = .ok (.dup, 1) := by decide +kernel
theorem dX4_init_42 : decode cX4_init 42 = .ok (.invokespecial 24, 3) := by decide +kernel
theorem dX4_init_45 : decode cX4_init 45 = .ok (.putfield 25, 3) := by decide +kernel
theorem dX4_init_48 : decode cX4_init 48 = .ok (.aload_n 0, 1) := by decide +kernel
theorem dX4_init_49 : decode cX4_init 49 = .ok (.new 29, 3) := by decide +kernel
theorem dX4_init_52 : decode cX4_init 52 = .ok (.dup, 1) := by decide +kernel
theorem dX4_init_53 : decode cX4_init 53 = .ok (.invokespecial 31, 3) := by decide +kernel
theorem dX4_init_56 : decode cX4_init 56 = .ok (.putfield 32, 3) := by decide +kernel
theorem dX4_init_59 : decode cX4_init 59 = .ok (.aload_n 0, 1) := by decide +kernel
theorem dX4_init_60 : decode cX4_init 60 = .ok (.new 36, 3) := by decide +kernel
theorem dX4_init_63 : decode cX4_init 63 = .ok (.dup, 1) := by decide +kernel
theorem dX4_init_64 : decode cX4_init 64 = .ok (.invokespecial 38, 3) := by decide +kernel
theorem dX4_init_67 : decode cX4_init 67 = .ok (.putfield 39, 3) := by decide +kernel
theorem dX4_init_70 : decode cX4_init 70 = .ok (.aload_n 0, 1) := by decide +kernel
theorem dX4_init_71 : decode cX4_init 71 = .ok (.iconst (-1), 1) := by decide +kernel
theorem dX4_init_72 : decode cX4_init 72 = .ok (.putfield 43, 3) := by decide +kernel
theorem dX4_init_75 : decode cX4_init 75 = .ok (.return_, 1) := by decide +kernel
theorem dX4_addTurbine_0 : decode cX4_addTurbine 0 = .ok (.aload_n 0, 1) := by decide +kernel
theorem dX4_addTurbine_1 : decode cX4_addTurbine 1 = .ok (.bipush 97, 2) := by decide +kernel
theorem dX4_addTurbine_3 : decode cX4_addTurbine 3 = .ok (.iload_n 1, 1) := by decide +kernel
theorem dX4_addTurbine_4 : decode cX4_addTurbine 4 = .ok (.iload_n 2, 1) := by decide +kernel
theorem dX4_addTurbine_5 : decode cX4_addTurbine 5 = .ok (.iload_n 3, 1) := by decide +kernel
theorem dX4_addTurbine_6 : decode cX4_addTurbine 6 = .ok (.invokevirtual 47, 3) := by decide +kernel
theorem dX4_addTurbine_9 : decode cX4_addTurbine 9 = .ok (.aload_n 0, 1) := by decide +kernel
theorem dX4_addTurbine_10 : decode cX4_addTurbine 10 = .ok (.getfield 10, 3) := by decide +kernel
theorem dX4_addTurbine_13 : decode cX4_addTurbine 13 = .ok (.iload_n 1, 1) := by decide +kernel
theorem dX4_addTurbine_14 : decode cX4_addTurbine 14 = .ok (.iload_n 2, 1) := by decide +kernel
theorem dX4_addTurbine_15 : decode cX4_addTurbine 15 = .ok (.iload_n 3, 1) := by decide +kernel
theorem dX4_addTurbine_16 : decode cX4_addTurbine 16 = .ok (.invokevirtual 51, 3) := by decide +kernel
theorem dX4_addTurbine_19 : decode cX4_addTurbine 19 = .ok (.ireturn, 1) := by decide +kernel
theorem dX4_fail_0 : decode cX4_fail 0 = .ok (.aload_n 0, 1) := by decide +kernel
theorem dX4_fail_1 : decode cX4_fail 1 = .ok (.bipush 102, 2) := by decide +kernel
theorem dX4_fail_3 : decode cX4_fail 3 = .ok (.iload_n 1, 1) := by decide +kernel
theorem dX4_fail_4 : decode cX4_fail 4 = .ok (.iconst 0, 1) := by decide +kernel
theorem dX4_fail_5 : decode cX4_fail 5 = .ok (.iconst 0, 1) := by decide +kernel
theorem dX4_fail_6 : decode cX4_fail 6 = .ok (.invokevirtual 47, 3) := by decide +kernel
theorem dX4_fail_9 : decode cX4_fail 9 = .ok (.aload_n 0, 1) := by decide +kernel
theorem dX4_fail_10 : decode cX4_fail 10 = .ok (.getfield 10, 3) := by decide +kernel
theorem dX4_fail_13 : decode cX4_fail 13 = .ok (.iload_n 1, 1) := by decide +kernel
theorem dX4_fail_14 : decode cX4_fail 14 = .ok (.invokevirtual 55, 3) := by decide +kernel
theorem dX4_fail_17 : decode cX4_fail 17 = .ok (.ireturn, 1) := by decide +kernel
theorem dX4_sendCrew_0 : decode cX4_sendCrew 0 = .ok (.aload_n 0, 1) := by decide +kernel
theorem dX4_sendCrew_1 : decode cX4_sendCrew 1 = .ok (.bipush 115, 2) := by decide +kernel
theorem dX4_sendCrew_3 : decode cX4_sendCrew 3 = .ok (.iload_n 1, 1) := by decide +kernel
theorem dX4_sendCrew_4 : decode cX4_sendCrew 4 = .ok (.iload_n 2, 1) := by decide +kernel
theorem dX4_sendCrew_5 : decode cX4_sendCrew 5 = .ok (.iconst 0, 1) := by decide +kernel
theorem dX4_sendCrew_6 : decode cX4_sendCrew 6 = .ok (.invokevirtual 47, 3) := by decide +kernel
theorem dX4_sendCrew_9 : decode cX4_sendCrew 9 = .ok (.aload_n 0, 1) := by decide +kernel
theorem dX4_sendCrew_10 : decode cX4_sendCrew 10 = .ok (.getfield 10, 3) := by decide +kernel
theorem dX4_sendCrew_13 : decode cX4_sendCrew 13 = .ok (.iload_n 1, 1) := by decide +kernel
theorem dX4_sendCrew_14 : decode cX4_sendCrew 14 = .ok (.iload_n 2, 1) := by decide +kernel
theorem dX4_sendCrew_15 : decode cX4_sendCrew 15 = .ok (.invokevirtual 59, 3) := by decide +kernel
theorem dX4_sendCrew_18 : decode cX4_sendCrew 18 = .ok (.ireturn, 1) := by decide +kernel
theorem dX4_recallCrew_0 : decode cX4_recallCrew 0 = .ok (.aload_n 0, 1) := by decide +kernel
theorem dX4_recallCrew_1 : decode cX4_recallCrew 1 = .ok (.bipush 114, 2) := by decide +kernel
theorem dX4_recallCrew_3 : decode cX4_recallCrew 3 = .ok (.iload_n 1, 1) := by decide +kernel
theorem dX4_recallCrew_4 : decode cX4_recallCrew 4 = .ok (.iconst 0, 1) := by decide +kernel
theorem dX4_recallCrew_5 : decode cX4_recallCrew 5 = .ok (.iconst 0, 1) := by decide +kernel
theorem dX4_recallCrew_6 : decode cX4_recallCrew 6 = .ok (.invokevirtual 47, 3) := by decide +kernel
theorem dX4_recallCrew_9 : decode cX4_recallCrew 9 = .ok (.aload_n 0, 1) := by decide +kernel
theorem dX4_recallCrew_10 : decode cX4_recallCrew 10 = .ok (.getfield 10, 3) := by decide +kernel
theorem dX4_recallCrew_13 : decode cX4_recallCrew 13 = .ok (.iload_n 1, 1) := by decide +kernel
theorem dX4_recallCrew_14 : decode cX4_recallCrew 14 = .ok (.invokevirtual 63, 3) := by decide +kernel
theorem dX4_recallCrew_17 : decode cX4_recallCrew 17 = .ok (.ireturn, 1) := by decide +kernel
theorem dX4_curtail_0 : decode cX4_curtail 0 = .ok (.aload_n 0, 1) := by decide +kernel
theorem dX4_curtail_1 : decode cX4_curtail 1 = .ok (.bipush 99, 2) := by decide +kernel
theorem dX4_curtail_3 : decode cX4_curtail 3 = .ok (.iload_n 1, 1) := by decide +kernel
theorem dX4_curtail_4 : decode cX4_curtail 4 = .ok (.iload_n 2, 1) := by decide +kernel
theorem dX4_curtail_5 : decode cX4_curtail 5 = .ok (.iconst 0, 1) := by decide +kernel
theorem dX4_curtail_6 : decode cX4_curtail 6 = .ok (.invokevirtual 47, 3) := by decide +kernel
theorem dX4_curtail_9 : decode cX4_curtail 9 = .ok (.aload_n 0, 1) := by decide +kernel
theorem dX4_curtail_10 : decode cX4_curtail 10 = .ok (.getfield 10, 3) := by decide +kernel
theorem dX4_curtail_13 : decode cX4_curtail 13 = .ok (.iload_n 1, 1) := by decide +kernel
theorem dX4_curtail_14 : decode cX4_curtail 14 = .ok (.iload_n 2, 1) := by decide +kernel
theorem dX4_curtail_15 : decode cX4_curtail 15 = .ok (.invokevirtual 66, 3) := by decide +kernel
theorem dX4_curtail_18 : decode cX4_curtail 18 = .ok (.ireturn, 1) := by decide +kernel
theorem dX4_release_0 : decode cX4_release 0 = .ok (.aload_n 0, 1) := by decide +kernel
theorem dX4_release_1 : decode cX4_release 1 = .ok (.bipush 117, 2) := by decide +kernel
theorem dX4_release_3 : decode cX4_release 3 = .ok (.iload_n 1, 1) := by decide +kernel
theorem dX4_release_4 : decode cX4_release 4 = .ok (.iconst 0, 1) := by decide +kernel
theorem dX4_release_5 : decode cX4_release 5 = .ok (.iconst 0, 1) := by decide +kernel
theorem dX4_release_6 : decode cX4_release 6 = .ok (.invokevirtual 47, 3) := by decide +kernel
theorem dX4_release_9 : decode cX4_release 9 = .ok (.aload_n 0, 1) := by decide +kernel
theorem dX4_release_10 : decode cX4_release 10 = .ok (.getfield 10, 3) := by decide +kernel
theorem dX4_release_13 : decode cX4_release 13 = .ok (.iload_n 1, 1) := by decide +kernel
theorem dX4_release_14 : decode cX4_release 14 = .ok (.invokevirtual 69, 3) := by decide +kernel
theorem dX4_release_17 : decode cX4_release 17 = .ok (.ireturn, 1) := by decide +kernel
theorem dX4_turbineCount_0 : decode cX4_turbineCount 0 = .ok (.aload_n 0, 1) := by decide +kernel
theorem dX4_turbineCount_1 : decode cX4_turbineCount 1 = .ok (.getfield 10, 3) := by decide +kernel
theorem dX4_turbineCount_4 : decode cX4_turbineCount 4 = .ok (.getfield 72, 3) := by decide +kernel
theorem dX4_turbineCount_7 : decode cX4_turbineCount 7 = .ok (.ireturn, 1) := by decide +kernel
theorem dX4_turbineAt_0 : decode cX4_turbineAt 0 = .ok (.iload_n 1, 1) := by decide +kernel
theorem dX4_turbineAt_1 : decode cX4_turbineAt 1 = .ok (.iload_n 2, 1) := by decide +kernel
theorem dX4_turbineAt_2 : decode cX4_turbineAt 2 = .ok (.invokestatic 75, 3) := by decide +kernel
theorem dX4_turbineAt_5 : decode cX4_turbineAt 5 = .ok (.ifCond .ne 13, 3) := by decide +kernel
theorem dX4_turbineAt_8 : decode cX4_turbineAt 8 = .ok (.new 79, 3) := by decide +kernel
theorem dX4_turbineAt_11 : decode cX4_turbineAt 11 = .ok (.dup, 1) := by decide +kernel
theorem dX4_turbineAt_12 : decode cX4_turbineAt 12 = .ok (.ldc 81, 2) := by decide +kernel
theorem dX4_turbineAt_14 : decode cX4_turbineAt 14 = .ok (.invokespecial 83, 3) := by decide +kernel
theorem dX4_turbineAt_17 : decode cX4_turbineAt 17 = .ok (.athrow, 1) := by decide +kernel
theorem dX4_turbineAt_18 : decode cX4_turbineAt 18 = .ok (.aload_n 0, 1) := by decide +kernel
theorem dX4_turbineAt_19 : decode cX4_turbineAt 19 = .ok (.getfield 10, 3) := by decide +kernel
theorem dX4_turbineAt_22 : decode cX4_turbineAt 22 = .ok (.iload_n 1, 1) := by decide +kernel
theorem dX4_turbineAt_23 : decode cX4_turbineAt 23 = .ok (.iload_n 2, 1) := by decide +kernel
theorem dX4_turbineAt_24 : decode cX4_turbineAt 24 = .ok (.invokevirtual 86, 3) := by decide +kernel
theorem dX4_turbineAt_27 : decode cX4_turbineAt 27 = .ok (.istore_n 3, 1) := by decide +kernel
theorem dX4_turbineAt_28 : decode cX4_turbineAt 28 = .ok (.iload_n 3, 1) := by decide +kernel
theorem dX4_turbineAt_29 : decode cX4_turbineAt 29 = .ok (.ifCond .ge 13, 3) := by decide +kernel
theorem dX4_turbineAt_32 : decode cX4_turbineAt 32 = .ok (.new 89, 3) := by decide +kernel
theorem dX4_turbineAt_35 : decode cX4_turbineAt 35 = .ok (.dup, 1) := by decide +kernel
theorem dX4_turbineAt_36 : decode cX4_turbineAt 36 = .ok (.ldc 91, 2) := by decide +kernel
theorem dX4_turbineAt_38 : decode cX4_turbineAt 38 = .ok (.invokespecial 93, 3) := by decide +kernel
theorem dX4_turbineAt_41 : decode cX4_turbineAt 41 = .ok (.athrow, 1) := by decide +kernel
theorem dX4_turbineAt_42 : decode cX4_turbineAt 42 = .ok (.iload_n 3, 1) := by decide +kernel
theorem dX4_turbineAt_43 : decode cX4_turbineAt 43 = .ok (.ireturn, 1) := by decide +kernel
theorem dX4_rowOf_0 : decode cX4_rowOf 0 = .ok (.aload_n 0, 1) := by decide +kernel
theorem dX4_rowOf_1 : decode cX4_rowOf 1 = .ok (.iload_n 1, 1) := by decide +kernel
theorem dX4_rowOf_2 : decode cX4_rowOf 2 = .ok (.invokevirtual 94, 3) := by decide +kernel
theorem dX4_rowOf_5 : decode cX4_rowOf 5 = .ok (.aload_n 0, 1) := by decide +kernel
theorem dX4_rowOf_6 : decode cX4_rowOf 6 = .ok (.getfield 10, 3) := by decide +kernel
theorem dX4_rowOf_9 : decode cX4_rowOf 9 = .ok (.getfield 98, 3) := by decide +kernel
theorem dX4_rowOf_12 : decode cX4_rowOf 12 = .ok (.iload_n 1, 1) := by decide +kernel
theorem dX4_rowOf_13 : decode cX4_rowOf 13 = .ok (.invokestatic 102, 3) := by decide +kernel
theorem dX4_rowOf_16 : decode cX4_rowOf 16 = .ok (.ireturn, 1) := by decide +kernel
theorem dX4_columnOf_0 : decode cX4_columnOf 0 = .ok (.aload_n 0, 1) := by decide +kernel
theorem dX4_columnOf_1 : decode cX4_columnOf 1 = .ok (.iload_n 1, 1) := by decide +kernel
theorem dX4_columnOf_2 : decode cX4_columnOf 2 = .ok (.invokevirtual 94, 3) := by decide +kernel
theorem dX4_columnOf_5 : decode cX4_columnOf 5 = .ok (.aload_n 0, 1) := by decide +kernel
theorem dX4_columnOf_6 : decode cX4_columnOf 6 = .ok (.getfield 10, 3) := by decide +kernel
theorem dX4_columnOf_9 : decode cX4_columnOf 9 = .ok (.getfield 106, 3) := by decide +kernel
theorem dX4_columnOf_12 : decode cX4_columnOf 12 = .ok (.iload_n 1, 1) := by decide +kernel
theorem dX4_columnOf_13 : decode cX4_columnOf 13 = .ok (.invokestatic 102, 3) := by decide +kernel
theorem dX4_columnOf_16 : decode cX4_columnOf 16 = .ok (.ireturn, 1) := by decide +kernel
theorem dX4_ratedPower_0 : decode cX4_ratedPower 0 = .ok (.aload_n 0, 1) := by decide +kernel
theorem dX4_ratedPower_1 : decode cX4_ratedPower 1 = .ok (.iload_n 1, 1) := by decide +kernel
theorem dX4_ratedPower_2 : decode cX4_ratedPower 2 = .ok (.invokevirtual 94, 3) := by decide +kernel
theorem dX4_ratedPower_5 : decode cX4_ratedPower 5 = .ok (.aload_n 0, 1) := by decide +kernel
theorem dX4_ratedPower_6 : decode cX4_ratedPower 6 = .ok (.getfield 10, 3) := by decide +kernel
theorem dX4_ratedPower_9 : decode cX4_ratedPower 9 = .ok (.getfield 109, 3) := by decide +kernel
theorem dX4_ratedPower_12 : decode cX4_ratedPower 12 = .ok (.iload_n 1, 1) := by decide +kernel
theorem dX4_ratedPower_13 : decode cX4_ratedPower 13 = .ok (.invokestatic 102, 3) := by decide +kernel
theorem dX4_ratedPower_16 : decode cX4_ratedPower 16 = .ok (.ireturn, 1) := by decide +kernel
theorem dX4_isRunning_0 : decode cX4_isRunning 0 = .ok (.aload_n 0, 1) := by decide +kernel
theorem dX4_isRunning_1 : decode cX4_isRunning 1 = .ok (.iload_n 1, 1) := by decide +kernel
theorem dX4_isRunning_2 : decode cX4_isRunning 2 = .ok (.invokevirtual 94, 3) := by decide +kernel
theorem dX4_isRunning_5 : decode cX4_isRunning 5 = .ok (.aload_n 0, 1) := by decide +kernel
theorem dX4_isRunning_6 : decode cX4_isRunning 6 = .ok (.getfield 10, 3) := by decide +kernel
theorem dX4_isRunning_9 : decode cX4_isRunning 9 = .ok (.iload_n 1, 1) := by decide +kernel
theorem dX4_isRunning_10 : decode cX4_isRunning 10 = .ok (.iconst 1, 1) := by decide +kernel
theorem dX4_isRunning_11 : decode cX4_isRunning 11 = .ok (.invokevirtual 112, 3) := by decide +kernel
theorem dX4_isRunning_14 : decode cX4_isRunning 14 = .ok (.ireturn, 1) := by decide +kernel
theorem dX4_isFailed_0 : decode cX4_isFailed 0 = .ok (.aload_n 0, 1) := by decide +kernel
theorem dX4_isFailed_1 : decode cX4_isFailed 1 = .ok (.iload_n 1, 1) := by decide +kernel
theorem dX4_isFailed_2 : decode cX4_isFailed 2 = .ok (.invokevirtual 94, 3) := by decide +kernel
theorem dX4_isFailed_5 : decode cX4_isFailed 5 = .ok (.aload_n 0, 1) := by decide +kernel
theorem dX4_isFailed_6 : decode cX4_isFailed 6 = .ok (.getfield 10, 3) := by decide +kernel
theorem dX4_isFailed_9 : decode cX4_isFailed 9 = .ok (.iload_n 1, 1) := by decide +kernel
theorem dX4_isFailed_10 : decode cX4_isFailed 10 = .ok (.iconst 2, 1) := by decide +kernel
theorem dX4_isFailed_11 : decode cX4_isFailed 11 = .ok (.invokevirtual 112, 3) := by decide +kernel
theorem dX4_isFailed_14 : decode cX4_isFailed 14 = .ok (.ireturn, 1) := by decide +kernel
theorem dX4_isInService_0 : decode cX4_isInService 0 = .ok (.aload_n 0, 1) := by decide +kernel
theorem dX4_isInService_1 : decode cX4_isInService 1 = .ok (.iload_n 1, 1) := by decide +kernel
theorem dX4_isInService_2 : decode cX4_isInService 2 = .ok (.invokevirtual 94, 3) := by decide +kernel
theorem dX4_isInService_5 : decode cX4_isInService 5 = .ok (.aload_n 0, 1) := by decide +kernel
theorem dX4_isInService_6 : decode cX4_isInService 6 = .ok (.getfield 10, 3) := by decide +kernel
theorem dX4_isInService_9 : decode cX4_isInService 9 = .ok (.iload_n 1, 1) := by decide +kernel
theorem dX4_isInService_10 : decode cX4_isInService 10 = .ok (.iconst 3, 1) := by decide +kernel
theorem dX4_isInService_11 : decode cX4_isInService 11 = .ok (.invokevirtual 112, 3) := by decide +kernel
theorem dX4_isInService_14 : decode cX4_isInService 14 = .ok (.ireturn, 1) := by decide +kernel
theorem dX4_limitOf_0 : decode cX4_limitOf 0 = .ok (.aload_n 0, 1) := by decide +kernel
theorem dX4_limitOf_1 : decode cX4_limitOf 1 = .ok (.iload_n 1, 1) := by decide +kernel
theorem dX4_limitOf_2 : decode cX4_limitOf 2 = .ok (.invokevirtual 94, 3) := by decide +kernel
theorem dX4_limitOf_5 : decode cX4_limitOf 5 = .ok (.aload_n 0, 1) := by decide +kernel
theorem dX4_limitOf_6 : decode cX4_limitOf 6 = .ok (.getfield 10, 3) := by decide +kernel
theorem dX4_limitOf_9 : decode cX4_limitOf 9 = .ok (.iload_n 1, 1) := by decide +kernel
theorem dX4_limitOf_10 : decode cX4_limitOf 10 = .ok (.invokevirtual 115, 3) := by decide +kernel
theorem dX4_limitOf_13 : decode cX4_limitOf 13 = .ok (.ifCond .ne 13, 3) := by decide +kernel
theorem dX4_limitOf_16 : decode cX4_limitOf 16 = .ok (.new 89, 3) := by decide +kernel
theorem dX4_limitOf_19 : decode cX4_limitOf 19 = .ok (.dup, 1) := by decide +kernel
theorem dX4_limitOf_20 : decode cX4_limitOf 20 = .ok (.ldc 119, 2) := by decide +kernel
theorem dX4_limitOf_22 : decode cX4_limitOf 22 = .ok (.invokespecial 93, 3) := by decide +kernel
theorem dX4_limitOf_25 : decode cX4_limitOf 25 = .ok (.athrow, 1) := by decide +kernel
theorem dX4_limitOf_26 : decode cX4_limitOf 26 = .ok (.aload_n 0, 1) := by decide +kernel
theorem dX4_limitOf_27 : decode cX4_limitOf 27 = .ok (.getfield 10, 3) := by decide +kernel
theorem dX4_limitOf_30 : decode cX4_limitOf 30 = .ok (.getfield 121, 3) := by decide +kernel
theorem dX4_limitOf_33 : decode cX4_limitOf 33 = .ok (.iload_n 1, 1) := by decide +kernel
theorem dX4_limitOf_34 : decode cX4_limitOf 34 = .ok (.invokestatic 102, 3) := by decide +kernel
theorem dX4_limitOf_37 : decode cX4_limitOf 37 = .ok (.ireturn, 1) := by decide +kernel
theorem dX4_serviceHoursLeft_0 : decode cX4_serviceHoursLeft 0 = .ok (.aload_n 0, 1) := by decide +kernel
theorem dX4_serviceHoursLeft_1 : decode cX4_serviceHoursLeft 1 = .ok (.iload_n 1, 1) := by decide +kernel
theorem dX4_serviceHoursLeft_2 : decode cX4_serviceHoursLeft 2 = .ok (.invokevirtual 94, 3) := by decide +kernel
theorem dX4_serviceHoursLeft_5 : decode cX4_serviceHoursLeft 5 = .ok (.aload_n 0, 1) := by decide +kernel
theorem dX4_serviceHoursLeft_6 : decode cX4_serviceHoursLeft 6 = .ok (.getfield 10, 3) := by decide +kernel
theorem dX4_serviceHoursLeft_9 : decode cX4_serviceHoursLeft 9 = .ok (.iload_n 1, 1) := by decide +kernel
theorem dX4_serviceHoursLeft_10 : decode cX4_serviceHoursLeft 10 = .ok (.iconst 3, 1) := by decide +kernel
theorem dX4_serviceHoursLeft_11 : decode cX4_serviceHoursLeft 11 = .ok (.invokevirtual 112, 3) := by decide +kernel
theorem dX4_serviceHoursLeft_14 : decode cX4_serviceHoursLeft 14 = .ok (.ifCond .ne 13, 3) := by decide +kernel
theorem dX4_serviceHoursLeft_17 : decode cX4_serviceHoursLeft 17 = .ok (.new 89, 3) := by decide +kernel
theorem dX4_serviceHoursLeft_20 : decode cX4_serviceHoursLeft 20 = .ok (.dup, 1) := by decide +kernel
theorem dX4_serviceHoursLeft_21 : decode cX4_serviceHoursLeft 21 = .ok (.ldc 124, 2) := by decide +kernel
theorem dX4_serviceHoursLeft_23 : decode cX4_serviceHoursLeft 23 = .ok (.invokespecial 93, 3) := by decide +kernel
theorem dX4_serviceHoursLeft_26 : decode cX4_serviceHoursLeft 26 = .ok (.athrow, 1) := by decide +kernel
theorem dX4_serviceHoursLeft_27 : decode cX4_serviceHoursLeft 27 = .ok (.aload_n 0, 1) := by decide +kernel
theorem dX4_serviceHoursLeft_28 : decode cX4_serviceHoursLeft 28 = .ok (.getfield 10, 3) := by decide +kernel
theorem dX4_serviceHoursLeft_31 : decode cX4_serviceHoursLeft 31 = .ok (.getfield 126, 3) := by decide +kernel
theorem dX4_serviceHoursLeft_34 : decode cX4_serviceHoursLeft 34 = .ok (.iload_n 1, 1) := by decide +kernel
theorem dX4_serviceHoursLeft_35 : decode cX4_serviceHoursLeft 35 = .ok (.invokestatic 102, 3) := by decide +kernel
theorem dX4_serviceHoursLeft_38 : decode cX4_serviceHoursLeft 38 = .ok (.ireturn, 1) := by decide +kernel
theorem dX4_freeCrews_0 : decode cX4_freeCrews 0 = .ok (.aload_n 0, 1) := by decide +kernel
theorem dX4_freeCrews_1 : decode cX4_freeCrews 1 = .ok (.getfield 10, 3) := by decide +kernel
theorem dX4_freeCrews_4 : decode cX4_freeCrews 4 = .ok (.invokevirtual 129, 3) := by decide +kernel
theorem dX4_freeCrews_7 : decode cX4_freeCrews 7 = .ok (.ireturn, 1) := by decide +kernel
theorem dX4_setWind_0 : decode cX4_setWind 0 = .ok (.aload_n 0, 1) := by decide +kernel
theorem dX4_setWind_1 : decode cX4_setWind 1 = .ok (.bipush 119, 2) := by decide +kernel
theorem dX4_setWind_3 : decode cX4_setWind 3 = .ok (.iload_n 1, 1) := by decide +kernel
theorem dX4_setWind_4 : decode cX4_setWind 4 = .ok (.iload_n 2, 1) := by decide +kernel
theorem dX4_setWind_5 : decode cX4_setWind 5 = .ok (.iconst 0, 1) := by decide +kernel
theorem dX4_setWind_6 : decode cX4_setWind 6 = .ok (.invokevirtual 47, 3) := by decide +kernel
theorem dX4_setWind_9 : decode cX4_setWind 9 = .ok (.aload_n 0, 1) := by decide +kernel
theorem dX4_setWind_10 : decode cX4_setWind 10 = .ok (.getfield 10, 3) := by decide +kernel
theorem dX4_setWind_13 : decode cX4_setWind 13 = .ok (.iload_n 1, 1) := by decide +kernel
theorem dX4_setWind_14 : decode cX4_setWind 14 = .ok (.iload_n 2, 1) := by decide +kernel
theorem dX4_setWind_15 : decode cX4_setWind 15 = .ok (.invokevirtual 133, 3) := by decide +kernel
theorem dX4_setWind_18 : decode cX4_setWind 18 = .ok (.ireturn, 1) := by decide +kernel
theorem dX4_windDirection_0 : decode cX4_windDirection 0 = .ok (.aload_n 0, 1) := by decide +kernel
theorem dX4_windDirection_1 : decode cX4_windDirection 1 = .ok (.getfield 10, 3) := by decide +kernel
theorem dX4_windDirection_4 : decode cX4_windDirection 4 = .ok (.getfield 137, 3) := by decide +kernel
theorem dX4_windDirection_7 : decode cX4_windDirection 7 = .ok (.ireturn, 1) := by decide +kernel
theorem dX4_windSpeed_0 : decode cX4_windSpeed 0 = .ok (.aload_n 0, 1) := by decide +kernel
theorem dX4_windSpeed_1 : decode cX4_windSpeed 1 = .ok (.getfield 10, 3) := by decide +kernel
theorem dX4_windSpeed_4 : decode cX4_windSpeed 4 = .ok (.getfield 141, 3) := by decide +kernel
theorem dX4_windSpeed_7 : decode cX4_windSpeed 7 = .ok (.ireturn, 1) := by decide +kernel
theorem dX4_powerFactor_0 : decode cX4_powerFactor 0 = .ok (.aload_n 0, 1) := by decide +kernel
theorem dX4_powerFactor_1 : decode cX4_powerFactor 1 = .ok (.getfield 10, 3) := by decide +kernel
theorem dX4_powerFactor_4 : decode cX4_powerFactor 4 = .ok (.getfield 141, 3) := by decide +kernel
theorem dX4_powerFactor_7 : decode cX4_powerFactor 7 = .ok (.invokestatic 144, 3) := by decide +kernel
theorem dX4_powerFactor_10 : decode cX4_powerFactor 10 = .ok (.ireturn, 1) := by decide +kernel
theorem dX4_wakeLoss_0 : decode cX4_wakeLoss 0 = .ok (.aload_n 0, 1) := by decide +kernel
theorem dX4_wakeLoss_1 : decode cX4_wakeLoss 1 = .ok (.iload_n 1, 1) := by decide +kernel
theorem dX4_wakeLoss_2 : decode cX4_wakeLoss 2 = .ok (.invokevirtual 94, 3) := by decide +kernel
theorem dX4_wakeLoss_5 : decode cX4_wakeLoss 5 = .ok (.aload_n 0, 1) := by decide +kernel
theorem dX4_wakeLoss_6 : decode cX4_wakeLoss 6 = .ok (.getfield 10, 3) := by decide +kernel
theorem dX4_wakeLoss_9 : decode cX4_wakeLoss 9 = .ok (.iload_n 1, 1) := by decide +kernel
theorem dX4_wakeLoss_10 : decode cX4_wakeLoss 10 = .ok (.aload_n 0, 1) := by decide +kernel
theorem dX4_wakeLoss_11 : decode cX4_wakeLoss 11 = .ok (.getfield 10, 3) := by decide +kernel
theorem dX4_wakeLoss_14 : decode cX4_wakeLoss 14 = .ok (.getfield 137, 3) := by decide +kernel
theorem dX4_wakeLoss_17 : decode cX4_wakeLoss 17 = .ok (.invokevirtual 147, 3) := by decide +kernel
theorem dX4_wakeLoss_20 : decode cX4_wakeLoss 20 = .ok (.ireturn, 1) := by decide +kernel
theorem dX4_availablePower_0 : decode cX4_availablePower 0 = .ok (.aload_n 0, 1) := by decide +kernel
theorem dX4_availablePower_1 : decode cX4_availablePower 1 = .ok (.iload_n 1, 1) := by decide +kernel
theorem dX4_availablePower_2 : decode cX4_availablePower 2 = .ok (.invokevirtual 94, 3) := by decide +kernel
theorem dX4_availablePower_5 : decode cX4_availablePower 5 = .ok (.aload_n 0, 1) := by decide +kernel
theorem dX4_availablePower_6 : decode cX4_availablePower 6 = .ok (.getfield 10, 3) := by decide +kernel
theorem dX4_availablePower_9 : decode cX4_availablePower 9 = .ok (.iload_n 1, 1) := by decide +kernel
theorem dX4_availablePower_10 : decode cX4_availablePower 10 = .ok (.aload_n 0, 1) := by decide +kernel
theorem dX4_availablePower_11 : decode cX4_availablePower 11 = .ok (.getfield 10, 3) := by decide +kernel
theorem dX4_availablePower_14 : decode cX4_availablePower 14 = .ok (.getfield 141, 3) := by decide +kernel
theorem dX4_availablePower_17 : decode cX4_availablePower 17 = .ok (.aload_n 0, 1) := by decide +kernel
theorem dX4_availablePower_18 : decode cX4_availablePower 18 = .ok (.getfield 10, 3) := by decide +kernel
theorem dX4_availablePower_21 : decode cX4_availablePower 21 = .ok (.iload_n 1, 1) := by decide +kernel
theorem dX4_availablePower_22 : decode cX4_availablePower 22 = .ok (.aload_n 0, 1) := by decide +kernel
theorem dX4_availablePower_23 : decode cX4_availablePower 23 = .ok (.getfield 10, 3) := by decide +kernel
theorem dX4_availablePower_26 : decode cX4_availablePower 26 = .ok (.getfield 137, 3) := by decide +kernel
theorem dX4_availablePower_29 : decode cX4_availablePower 29 = .ok (.invokevirtual 147, 3) := by decide +kernel
theorem dX4_availablePower_32 : decode cX4_availablePower 32 = .ok (.invokevirtual 151, 3) := by decide +kernel
theorem dX4_availablePower_35 : decode cX4_availablePower 35 = .ok (.ireturn, 1) := by decide +kernel
theorem dX4_outputOf_0 : decode cX4_outputOf 0 = .ok (.aload_n 0, 1) := by decide +kernel
theorem dX4_outputOf_1 : decode cX4_outputOf 1 = .ok (.iload_n 1, 1) := by decide +kernel
theorem dX4_outputOf_2 : decode cX4_outputOf 2 = .ok (.invokevirtual 94, 3) := by decide +kernel
theorem dX4_outputOf_5 : decode cX4_outputOf 5 = .ok (.aload_n 0, 1) := by decide +kernel
theorem dX4_outputOf_6 : decode cX4_outputOf 6 = .ok (.getfield 10, 3) := by decide +kernel
theorem dX4_outputOf_9 : decode cX4_outputOf 9 = .ok (.iload_n 1, 1) := by decide +kernel
theorem dX4_outputOf_10 : decode cX4_outputOf 10 = .ok (.aload_n 0, 1) := by decide +kernel
theorem dX4_outputOf_11 : decode cX4_outputOf 11 = .ok (.getfield 10, 3) := by decide +kernel
theorem dX4_outputOf_14 : decode cX4_outputOf 14 = .ok (.getfield 137, 3) := by decide +kernel
theorem dX4_outputOf_17 : decode cX4_outputOf 17 = .ok (.aload_n 0, 1) := by decide +kernel
theorem dX4_outputOf_18 : decode cX4_outputOf 18 = .ok (.getfield 10, 3) := by decide +kernel
theorem dX4_outputOf_21 : decode cX4_outputOf 21 = .ok (.getfield 141, 3) := by decide +kernel
theorem dX4_outputOf_24 : decode cX4_outputOf 24 = .ok (.invokevirtual 154, 3) := by decide +kernel
theorem dX4_outputOf_27 : decode cX4_outputOf 27 = .ok (.ireturn, 1) := by decide +kernel
theorem dX4_totalOutput_0 : decode cX4_totalOutput 0 = .ok (.aload_n 0, 1) := by decide +kernel
theorem dX4_totalOutput_1 : decode cX4_totalOutput 1 = .ok (.getfield 10, 3) := by decide +kernel
theorem dX4_totalOutput_4 : decode cX4_totalOutput 4 = .ok (.aload_n 0, 1) := by decide +kernel
theorem dX4_totalOutput_5 : decode cX4_totalOutput 5 = .ok (.getfield 10, 3) := by decide +kernel
theorem dX4_totalOutput_8 : decode cX4_totalOutput 8 = .ok (.getfield 137, 3) := by decide +kernel
theorem dX4_totalOutput_11 : decode cX4_totalOutput 11 = .ok (.aload_n 0, 1) := by decide +kernel
theorem dX4_totalOutput_12 : decode cX4_totalOutput 12 = .ok (.getfield 10, 3) := by decide +kernel
theorem dX4_totalOutput_15 : decode cX4_totalOutput 15 = .ok (.getfield 141, 3) := by decide +kernel
theorem dX4_totalOutput_18 : decode cX4_totalOutput 18 = .ok (.invokevirtual 158, 3) := by decide +kernel
theorem dX4_totalOutput_21 : decode cX4_totalOutput 21 = .ok (.ireturn, 1) := by decide +kernel
theorem dX4_totalOutputByLines_0 : decode cX4_totalOutputByLines 0 = .ok (.aload_n 0, 1) := by decide +kernel
theorem dX4_totalOutputByLines_1 : decode cX4_totalOutputByLines 1 = .ok (.getfield 10, 3) := by decide +kernel
theorem dX4_totalOutputByLines_4 : decode cX4_totalOutputByLines 4 = .ok (.invokevirtual 161, 3) := by decide +kernel
theorem dX4_totalOutputByLines_7 : decode cX4_totalOutputByLines 7 = .ok (.ireturn, 1) := by decide +kernel
theorem dX4_outputWith_0 : decode cX4_outputWith 0 = .ok (.iload_n 1, 1) := by decide +kernel
theorem dX4_outputWith_1 : decode cX4_outputWith 1 = .ok (.iload_n 2, 1) := by decide +kernel
theorem dX4_outputWith_2 : decode cX4_outputWith 2 = .ok (.invokestatic 164, 3) := by decide +kernel
theorem dX4_outputWith_5 : decode cX4_outputWith 5 = .ok (.ifCond .ne 13, 3) := by decide +kernel
theorem dX4_outputWith_8 : decode cX4_outputWith 8 = .ok (.new 167, 3) := by decide +kernel
theorem dX4_outputWith_11 : decode cX4_outputWith 11 = .ok (.dup, 1) := by decide +kernel
theorem dX4_outputWith_12 : decode cX4_outputWith 12 = .ok (.ldc 169, 2) := by decide +kernel
theorem dX4_outputWith_14 : decode cX4_outputWith 14 = .ok (.invokespecial 171, 3) := by decide +kernel
theorem dX4_outputWith_17 : decode cX4_outputWith 17 = .ok (.athrow, 1) := by decide +kernel
theorem dX4_outputWith_18 : decode cX4_outputWith 18 = .ok (.aload_n 0, 1) := by decide +kernel
theorem dX4_outputWith_19 : decode cX4_outputWith 19 = .ok (.getfield 10, 3) := by decide +kernel
theorem dX4_outputWith_22 : decode cX4_outputWith 22 = .ok (.iload_n 1, 1) := by decide +kernel
theorem dX4_outputWith_23 : decode cX4_outputWith 23 = .ok (.iload_n 2, 1) := by decide +kernel
theorem dX4_outputWith_24 : decode cX4_outputWith 24 = .ok (.invokevirtual 158, 3) := by decide +kernel
theorem dX4_outputWith_27 : decode cX4_outputWith 27 = .ok (.ireturn, 1) := by decide +kernel
theorem dX4_bestDirection_0 : decode cX4_bestDirection 0 = .ok (.bipush 78, 2) := by decide +kernel
theorem dX4_bestDirection_2 : decode cX4_bestDirection 2 = .ok (.istore_n 1, 1) := by decide +kernel
theorem dX4_bestDirection_3 : decode cX4_bestDirection 3 = .ok (.iconst (-1), 1) := by decide +kernel
theorem dX4_bestDirection_4 : decode cX4_bestDirection 4 = .ok (.istore_n 2, 1) := by decide +kernel
theorem dX4_bestDirection_5 : decode cX4_bestDirection 5 = .ok (.iconst 0, 1) := by decide +kernel
theorem dX4_bestDirection_6 : decode cX4_bestDirection 6 = .ok (.istore_n 3, 1) := by decide +kernel
theorem dX4_bestDirection_7 : decode cX4_bestDirection 7 = .ok (.iload_n 3, 1) := by decide +kernel
theorem dX4_bestDirection_8 : decode cX4_bestDirection 8 = .ok (.ldc 172, 2) := by decide +kernel
theorem dX4_bestDirection_10 : decode cX4_bestDirection 10 = .ok (.invokevirtual 174, 3) := by decide +kernel
theorem dX4_bestDirection_13 : decode cX4_bestDirection 13 = .ok (.if_icmp .ge 47, 3) := by decide +kernel
theorem dX4_bestDirection_16 : decode cX4_bestDirection 16 = .ok (.ldc 172, 2) := by decide +kernel
theorem dX4_bestDirection_18 : decode cX4_bestDirection 18 = .ok (.iload_n 3, 1) := by decide +kernel
theorem dX4_bestDirection_19 : decode cX4_bestDirection 19 = .ok (.invokevirtual 179, 3) := by decide +kernel
theorem dX4_bestDirection_22 : decode cX4_bestDirection 22 = .ok (.istore 4, 2) := by decide +kernel
theorem dX4_bestDirection_24 : decode cX4_bestDirection 24 = .ok (.aload_n 0, 1) := by decide +kernel
theorem dX4_bestDirection_25 : decode cX4_bestDirection 25 = .ok (.getfield 10, 3) := by decide +kernel
theorem dX4_bestDirection_28 : decode cX4_bestDirection 28 = .ok (.iload 4, 2) := by decide +kernel
theorem dX4_bestDirection_30 : decode cX4_bestDirection 30 = .ok (.aload_n 0, 1) := by decide +kernel
theorem dX4_bestDirection_31 : decode cX4_bestDirection 31 = .ok (.getfield 10, 3) := by decide +kernel
theorem dX4_bestDirection_34 : decode cX4_bestDirection 34 = .ok (.getfield 141, 3) := by decide +kernel
theorem dX4_bestDirection_37 : decode cX4_bestDirection 37 = .ok (.invokevirtual 158, 3) := by decide +kernel
theorem dX4_bestDirection_40 : decode cX4_bestDirection 40 = .ok (.istore 5, 2) := by decide +kernel
theorem dX4_bestDirection_42 : decode cX4_bestDirection 42 = .ok (.iload 5, 2) := by decide +kernel
theorem dX4_bestDirection_44 : decode cX4_bestDirection 44 = .ok (.iload_n 2, 1) := by decide +kernel
theorem dX4_bestDirection_45 : decode cX4_bestDirection 45 = .ok (.if_icmp .le 9, 3) := by decide +kernel
theorem dX4_bestDirection_48 : decode cX4_bestDirection 48 = .ok (.iload 5, 2) := by decide +kernel
theorem dX4_bestDirection_50 : decode cX4_bestDirection 50 = .ok (.istore_n 2, 1) := by decide +kernel
theorem dX4_bestDirection_51 : decode cX4_bestDirection 51 = .ok (.iload 4, 2) := by decide +kernel
theorem dX4_bestDirection_53 : decode cX4_bestDirection 53 = .ok (.istore_n 1, 1) := by decide +kernel
theorem dX4_bestDirection_54 : decode cX4_bestDirection 54 = .ok (.iinc 3 1, 3) := by decide +kernel
theorem dX4_bestDirection_57 : decode cX4_bestDirection 57 = .ok (.goto (-50), 3) := by decide +kernel
theorem dX4_bestDirection_60 : decode cX4_bestDirection 60 = .ok (.iload_n 1, 1) := by decide +kernel
theorem dX4_bestDirection_61 : decode cX4_bestDirection 61 = .ok (.ireturn, 1) := by decide +kernel
theorem dX4_setGridLimit_0 : decode cX4_setGridLimit 0 = .ok (.aload_n 0, 1) := by decide +kernel
theorem dX4_setGridLimit_1 : decode cX4_setGridLimit 1 = .ok (.bipush 103, 2) := by decide +kernel
theorem dX4_setGridLimit_3 : decode cX4_setGridLimit 3 = .ok (.iload_n 1, 1) := by decide +kernel
theorem dX4_setGridLimit_4 : decode cX4_setGridLimit 4 = .ok (.iconst 0, 1) := by decide +kernel
theorem dX4_setGridLimit_5 : decode cX4_setGridLimit 5 = .ok (.iconst 0, 1) := by decide +kernel
theorem dX4_setGridLimit_6 : decode cX4_setGridLimit 6 = .ok (.invokevirtual 47, 3) := by decide +kernel
theorem dX4_setGridLimit_9 : decode cX4_setGridLimit 9 = .ok (.aload_n 0, 1) := by decide +kernel
theorem dX4_setGridLimit_10 : decode cX4_setGridLimit 10 = .ok (.getfield 10, 3) := by decide +kernel
theorem dX4_setGridLimit_13 : decode cX4_setGridLimit 13 = .ok (.iload_n 1, 1) := by decide +kernel
theorem dX4_setGridLimit_14 : decode cX4_setGridLimit 14 = .ok (.invokevirtual 183, 3) := by decide +kernel
theorem dX4_setGridLimit_17 : decode cX4_setGridLimit 17 = .ok (.ireturn, 1) := by decide +kernel
theorem dX4_gridLimit_0 : decode cX4_gridLimit 0 = .ok (.aload_n 0, 1) := by decide +kernel
theorem dX4_gridLimit_1 : decode cX4_gridLimit 1 = .ok (.getfield 10, 3) := by decide +kernel
theorem dX4_gridLimit_4 : decode cX4_gridLimit 4 = .ok (.getfield 186, 3) := by decide +kernel
theorem dX4_gridLimit_7 : decode cX4_gridLimit 7 = .ok (.ireturn, 1) := by decide +kernel
theorem dX4_dispatch_0 : decode cX4_dispatch 0 = .ok (.aload_n 0, 1) := by decide +kernel
theorem dX4_dispatch_1 : decode cX4_dispatch 1 = .ok (.bipush 100, 2) := by decide +kernel
theorem dX4_dispatch_3 : decode cX4_dispatch 3 = .ok (.iconst 0, 1) := by decide +kernel
theorem dX4_dispatch_4 : decode cX4_dispatch 4 = .ok (.iconst 0, 1) := by decide +kernel
theorem dX4_dispatch_5 : decode cX4_dispatch 5 = .ok (.iconst 0, 1) := by decide +kernel
theorem dX4_dispatch_6 : decode cX4_dispatch 6 = .ok (.invokevirtual 47, 3) := by decide +kernel
theorem dX4_dispatch_9 : decode cX4_dispatch 9 = .ok (.aload_n 0, 1) := by decide +kernel
theorem dX4_dispatch_10 : decode cX4_dispatch 10 = .ok (.getfield 10, 3) := by decide +kernel
theorem dX4_dispatch_13 : decode cX4_dispatch 13 = .ok (.invokevirtual 189, 3) := by decide +kernel
theorem dX4_dispatch_16 : decode cX4_dispatch 16 = .ok (.ireturn, 1) := by decide +kernel
theorem dX4_releaseAll_0 : decode cX4_releaseAll 0 = .ok (.aload_n 0, 1) := by decide +kernel
theorem dX4_releaseAll_1 : decode cX4_releaseAll 1 = .ok (.bipush 118, 2) := by decide +kernel
theorem dX4_releaseAll_3 : decode cX4_releaseAll 3 = .ok (.iconst 0, 1) := by decide +kernel
theorem dX4_releaseAll_4 : decode cX4_releaseAll 4 = .ok (.iconst 0, 1) := by decide +kernel
theorem dX4_releaseAll_5 : decode cX4_releaseAll 5 = .ok (.iconst 0, 1) := by decide +kernel
theorem dX4_releaseAll_6 : decode cX4_releaseAll 6 = .ok (.invokevirtual 47, 3) := by decide +kernel
theorem dX4_releaseAll_9 : decode cX4_releaseAll 9 = .ok (.aload_n 0, 1) := by decide +kernel
theorem dX4_releaseAll_10 : decode cX4_releaseAll 10 = .ok (.getfield 10, 3) := by decide +kernel
theorem dX4_releaseAll_13 : decode cX4_releaseAll 13 = .ok (.invokevirtual 192, 3) := by decide +kernel
theorem dX4_releaseAll_16 : decode cX4_releaseAll 16 = .ok (.ireturn, 1) := by decide +kernel
theorem dX4_placeBid_0 : decode cX4_placeBid 0 = .ok (.aload_n 0, 1) := by decide +kernel
theorem dX4_placeBid_1 : decode cX4_placeBid 1 = .ok (.bipush 98, 2) := by decide +kernel
theorem dX4_placeBid_3 : decode cX4_placeBid 3 = .ok (.iload_n 1, 1) := by decide +kernel
theorem dX4_placeBid_4 : decode cX4_placeBid 4 = .ok (.iload_n 2, 1) := by decide +kernel
theorem dX4_placeBid_5 : decode cX4_placeBid 5 = .ok (.iload_n 3, 1) := by decide +kernel
theorem dX4_placeBid_6 : decode cX4_placeBid 6 = .ok (.invokevirtual 47, 3) := by decide +kernel
theorem dX4_placeBid_9 : decode cX4_placeBid 9 = .ok (.aload_n 0, 1) := by decide +kernel
theorem dX4_placeBid_10 : decode cX4_placeBid 10 = .ok (.getfield 10, 3) := by decide +kernel
theorem dX4_placeBid_13 : decode cX4_placeBid 13 = .ok (.iload_n 1, 1) := by decide +kernel
theorem dX4_placeBid_14 : decode cX4_placeBid 14 = .ok (.iload_n 2, 1) := by decide +kernel
theorem dX4_placeBid_15 : decode cX4_placeBid 15 = .ok (.iload_n 3, 1) := by decide +kernel
theorem dX4_placeBid_16 : decode cX4_placeBid 16 = .ok (.invokevirtual 195, 3) := by decide +kernel
theorem dX4_placeBid_19 : decode cX4_placeBid 19 = .ok (.ireturn, 1) := by decide +kernel
theorem dX4_withdrawBid_0 : decode cX4_withdrawBid 0 = .ok (.aload_n 0, 1) := by decide +kernel
theorem dX4_withdrawBid_1 : decode cX4_withdrawBid 1 = .ok (.bipush 113, 2) := by decide +kernel
theorem dX4_withdrawBid_3 : decode cX4_withdrawBid 3 = .ok (.iload_n 1, 1) := by decide +kernel
theorem dX4_withdrawBid_4 : decode cX4_withdrawBid 4 = .ok (.iconst 0, 1) := by decide +kernel
theorem dX4_withdrawBid_5 : decode cX4_withdrawBid 5 = .ok (.iconst 0, 1) := by decide +kernel
theorem dX4_withdrawBid_6 : decode cX4_withdrawBid 6 = .ok (.invokevirtual 47, 3) := by decide +kernel
theorem dX4_withdrawBid_9 : decode cX4_withdrawBid 9 = .ok (.aload_n 0, 1) := by decide +kernel
theorem dX4_withdrawBid_10 : decode cX4_withdrawBid 10 = .ok (.getfield 10, 3) := by decide +kernel
theorem dX4_withdrawBid_13 : decode cX4_withdrawBid 13 = .ok (.iload_n 1, 1) := by decide +kernel
theorem dX4_withdrawBid_14 : decode cX4_withdrawBid 14 = .ok (.invokevirtual 198, 3) := by decide +kernel
theorem dX4_withdrawBid_17 : decode cX4_withdrawBid 17 = .ok (.ireturn, 1) := by decide +kernel
theorem dX4_hasBid_0 : decode cX4_hasBid 0 = .ok (.aload_n 0, 1) := by decide +kernel
theorem dX4_hasBid_1 : decode cX4_hasBid 1 = .ok (.iload_n 1, 1) := by decide +kernel
theorem dX4_hasBid_2 : decode cX4_hasBid 2 = .ok (.invokevirtual 201, 3) := by decide +kernel
theorem dX4_hasBid_5 : decode cX4_hasBid 5 = .ok (.aload_n 0, 1) := by decide +kernel
theorem dX4_hasBid_6 : decode cX4_hasBid 6 = .ok (.getfield 10, 3) := by decide +kernel
theorem dX4_hasBid_9 : decode cX4_hasBid 9 = .ok (.iload_n 1, 1) := by decide +kernel
theorem dX4_hasBid_10 : decode cX4_hasBid 10 = .ok (.invokevirtual 204, 3) := by decide +kernel
theorem dX4_hasBid_13 : decode cX4_hasBid 13 = .ok (.ireturn, 1) := by decide +kernel
theorem dX4_bidPrice_0 : decode cX4_bidPrice 0 = .ok (.aload_n 0, 1) := by decide +kernel
theorem dX4_bidPrice_1 : decode cX4_bidPrice 1 = .ok (.iload_n 1, 1) := by decide +kernel
theorem dX4_bidPrice_2 : decode cX4_bidPrice 2 = .ok (.invokevirtual 207, 3) := by decide +kernel
theorem dX4_bidPrice_5 : decode cX4_bidPrice 5 = .ok (.aload_n 0, 1) := by decide +kernel
theorem dX4_bidPrice_6 : decode cX4_bidPrice 6 = .ok (.getfield 10, 3) := by decide +kernel
theorem dX4_bidPrice_9 : decode cX4_bidPrice 9 = .ok (.getfield 210, 3) := by decide +kernel
theorem dX4_bidPrice_12 : decode cX4_bidPrice 12 = .ok (.iload_n 1, 1) := by decide +kernel
theorem dX4_bidPrice_13 : decode cX4_bidPrice 13 = .ok (.invokestatic 102, 3) := by decide +kernel
theorem dX4_bidPrice_16 : decode cX4_bidPrice 16 = .ok (.ireturn, 1) := by decide +kernel
theorem dX4_bidQuantity_0 : decode cX4_bidQuantity 0 = .ok (.aload_n 0, 1) := by decide +kernel
theorem dX4_bidQuantity_1 : decode cX4_bidQuantity 1 = .ok (.iload_n 1, 1) := by decide +kernel
theorem dX4_bidQuantity_2 : decode cX4_bidQuantity 2 = .ok (.invokevirtual 207, 3) := by decide +kernel
theorem dX4_bidQuantity_5 : decode cX4_bidQuantity 5 = .ok (.aload_n 0, 1) := by decide +kernel
theorem dX4_bidQuantity_6 : decode cX4_bidQuantity 6 = .ok (.getfield 10, 3) := by decide +kernel
theorem dX4_bidQuantity_9 : decode cX4_bidQuantity 9 = .ok (.getfield 213, 3) := by decide +kernel
theorem dX4_bidQuantity_12 : decode cX4_bidQuantity 12 = .ok (.iload_n 1, 1) := by decide +kernel
theorem dX4_bidQuantity_13 : decode cX4_bidQuantity 13 = .ok (.invokestatic 102, 3) := by decide +kernel
theorem dX4_bidQuantity_16 : decode cX4_bidQuantity 16 = .ok (.ireturn, 1) := by decide +kernel
theorem dX4_bidByPrice_0 : decode cX4_bidByPrice 0 = .ok (.iconst 0, 1) := by decide +kernel
theorem dX4_bidByPrice_1 : decode cX4_bidByPrice 1 = .ok (.istore_n 2, 1) := by decide +kernel
theorem dX4_bidByPrice_2 : decode cX4_bidByPrice 2 = .ok (.iload_n 2, 1) := by decide +kernel
theorem dX4_bidByPrice_3 : decode cX4_bidByPrice 3 = .ok (.bipush 24, 2) := by decide +kernel
theorem dX4_bidByPrice_5 : decode cX4_bidByPrice 5 = .ok (.if_icmp .ge 34, 3) := by decide +kernel
theorem dX4_bidByPrice_8 : decode cX4_bidByPrice 8 = .ok (.aload_n 0, 1) := by decide +kernel
theorem dX4_bidByPrice_9 : decode cX4_bidByPrice 9 = .ok (.getfield 10, 3) := by decide +kernel
theorem dX4_bidByPrice_12 : decode cX4_bidByPrice 12 = .ok (.iload_n 2, 1) := by decide +kernel
theorem dX4_bidByPrice_13 : decode cX4_bidByPrice 13 = .ok (.invokevirtual 204, 3) := by decide +kernel
theorem dX4_bidByPrice_16 : decode cX4_bidByPrice 16 = .ok (.ifCond .eq 17, 3) := by decide +kernel
theorem dX4_bidByPrice_19 : decode cX4_bidByPrice 19 = .ok (.aload_n 0, 1) := by decide +kernel
theorem dX4_bidByPrice_20 : decode cX4_bidByPrice 20 = .ok (.getfield 10, 3) := by decide +kernel
theorem dX4_bidByPrice_23 : decode cX4_bidByPrice 23 = .ok (.iload_n 2, 1) := by decide +kernel
theorem dX4_bidByPrice_24 : decode cX4_bidByPrice 24 = .ok (.invokevirtual 216, 3) := by decide +kernel
theorem dX4_bidByPrice_27 : decode cX4_bidByPrice 27 = .ok (.iload_n 1, 1) := by decide +kernel
theorem dX4_bidByPrice_28 : decode cX4_bidByPrice 28 = .ok (.if_icmp .ne 5, 3) := by decide +kernel
theorem dX4_bidByPrice_31 : decode cX4_bidByPrice 31 = .ok (.iload_n 2, 1) := by decide +kernel
theorem dX4_bidByPrice_32 : decode cX4_bidByPrice 32 = .ok (.ireturn, 1) := by decide +kernel
theorem dX4_bidByPrice_33 : decode cX4_bidByPrice 33 = .ok (.iinc 2 1, 3) := by decide +kernel
theorem dX4_bidByPrice_36 : decode cX4_bidByPrice 36 = .ok (.goto (-34), 3) := by decide +kernel
theorem dX4_bidByPrice_39 : decode cX4_bidByPrice 39 = .ok (.new 89, 3) := by decide +kernel
theorem dX4_bidByPrice_42 : decode cX4_bidByPrice 42 = .ok (.dup, 1) := by decide +kernel
theorem dX4_bidByPrice_43 : decode cX4_bidByPrice 43 = .ok (.ldc 219, 2) := by decide +kernel
theorem dX4_bidByPrice_45 : decode cX4_bidByPrice 45 = .ok (.invokespecial 93, 3) := by decide +kernel
theorem dX4_bidByPrice_48 : decode cX4_bidByPrice 48 = .ok (.athrow, 1) := by decide +kernel
theorem dX4_passHours_0 : decode cX4_passHours 0 = .ok (.aload_n 0, 1) := by decide +kernel
theorem dX4_passHours_1 : decode cX4_passHours 1 = .ok (.bipush 116, 2) := by decide +kernel
theorem dX4_passHours_3 : decode cX4_passHours 3 = .ok (.iload_n 1, 1) := by decide +kernel
theorem dX4_passHours_4 : decode cX4_passHours 4 = .ok (.iconst 0, 1) := by decide +kernel
theorem dX4_passHours_5 : decode cX4_passHours 5 = .ok (.iconst 0, 1) := by decide +kernel
theorem dX4_passHours_6 : decode cX4_passHours 6 = .ok (.invokevirtual 47, 3) := by decide +kernel
theorem dX4_passHours_9 : decode cX4_passHours 9 = .ok (.aload_n 0, 1) := by decide +kernel
theorem dX4_passHours_10 : decode cX4_passHours 10 = .ok (.getfield 10, 3) := by decide +kernel
theorem dX4_passHours_13 : decode cX4_passHours 13 = .ok (.iload_n 1, 1) := by decide +kernel
theorem dX4_passHours_14 : decode cX4_passHours 14 = .ok (.invokevirtual 221, 3) := by decide +kernel
theorem dX4_passHours_17 : decode cX4_passHours 17 = .ok (.ireturn, 1) := by decide +kernel
theorem dX4_time_0 : decode cX4_time 0 = .ok (.aload_n 0, 1) := by decide +kernel
theorem dX4_time_1 : decode cX4_time 1 = .ok (.getfield 10, 3) := by decide +kernel
theorem dX4_time_4 : decode cX4_time 4 = .ok (.getfield 224, 3) := by decide +kernel
theorem dX4_time_7 : decode cX4_time 7 = .ok (.ireturn, 1) := by decide +kernel
theorem dX4_incomeWithin_0 : decode cX4_incomeWithin 0 = .ok (.iload_n 1, 1) := by decide +kernel
theorem dX4_incomeWithin_1 : decode cX4_incomeWithin 1 = .ok (.iconst 1, 1) := by decide +kernel
theorem dX4_incomeWithin_2 : decode cX4_incomeWithin 2 = .ok (.bipush 48, 2) := by decide +kernel
theorem dX4_incomeWithin_4 : decode cX4_incomeWithin 4 = .ok (.invokestatic 227, 3) := by decide +kernel
theorem dX4_incomeWithin_7 : decode cX4_incomeWithin 7 = .ok (.ifCond .ne 13, 3) := by decide +kernel
theorem dX4_incomeWithin_10 : decode cX4_incomeWithin 10 = .ok (.new 167, 3) := by decide +kernel
theorem dX4_incomeWithin_13 : decode cX4_incomeWithin 13 = .ok (.dup, 1) := by decide +kernel
theorem dX4_incomeWithin_14 : decode cX4_incomeWithin 14 = .ok (.ldc 231, 2) := by decide +kernel
theorem dX4_incomeWithin_16 : decode cX4_incomeWithin 16 = .ok (.invokespecial 171, 3) := by decide +kernel
theorem dX4_incomeWithin_19 : decode cX4_incomeWithin 19 = .ok (.athrow, 1) := by decide +kernel
theorem dX4_incomeWithin_20 : decode cX4_incomeWithin 20 = .ok (.aload_n 0, 1) := by decide +kernel
theorem dX4_incomeWithin_21 : decode cX4_incomeWithin 21 = .ok (.getfield 16, 3) := by decide +kernel
theorem dX4_incomeWithin_24 : decode cX4_incomeWithin 24 = .ok (.aload_n 0, 1) := by decide +kernel
theorem dX4_incomeWithin_25 : decode cX4_incomeWithin 25 = .ok (.getfield 10, 3) := by decide +kernel
theorem dX4_incomeWithin_28 : decode cX4_incomeWithin 28 = .ok (.invokevirtual 233, 3) := by decide +kernel
theorem dX4_incomeWithin_31 : decode cX4_incomeWithin 31 = .ok (.aload_n 0, 1) := by decide +kernel
theorem dX4_incomeWithin_32 : decode cX4_incomeWithin 32 = .ok (.getfield 16, 3) := by decide +kernel
theorem dX4_incomeWithin_35 : decode cX4_incomeWithin 35 = .ok (.iload_n 1, 1) := by decide +kernel
theorem dX4_incomeWithin_36 : decode cX4_incomeWithin 36 = .ok (.invokevirtual 221, 3) := by decide +kernel
theorem dX4_incomeWithin_39 : decode cX4_incomeWithin 39 = .ok (.pop, 1) := by decide +kernel
theorem dX4_incomeWithin_40 : decode cX4_incomeWithin 40 = .ok (.aload_n 0, 1) := by decide +kernel
theorem dX4_incomeWithin_41 : decode cX4_incomeWithin 41 = .ok (.getfield 16, 3) := by decide +kernel
theorem dX4_incomeWithin_44 : decode cX4_incomeWithin 44 = .ok (.getfield 237, 3) := by decide +kernel
theorem dX4_incomeWithin_47 : decode cX4_incomeWithin 47 = .ok (.aload_n 0, 1) := by decide +kernel
theorem dX4_incomeWithin_48 : decode cX4_incomeWithin 48 = .ok (.getfield 10, 3) := by decide +kernel
theorem dX4_incomeWithin_51 : decode cX4_incomeWithin 51 = .ok (.getfield 237, 3) := by decide +kernel
theorem dX4_incomeWithin_54 : decode cX4_incomeWithin 54 = .ok (.lsub, 1) := by decide +kernel
theorem dX4_incomeWithin_55 : decode cX4_incomeWithin 55 = .ok (.l2i, 1) := by decide +kernel
theorem dX4_incomeWithin_56 : decode cX4_incomeWithin 56 = .ok (.ireturn, 1) := by decide +kernel
theorem dX4_hoursToBid_0 : decode cX4_hoursToBid 0 = .ok (.iconst 0, 1) := by decide +kernel
theorem dX4_hoursToBid_1 : decode cX4_hoursToBid 1 = .ok (.istore_n 1, 1) := by decide +kernel
theorem dX4_hoursToBid_2 : decode cX4_hoursToBid 2 = .ok (.iload_n 1, 1) := by decide +kernel
theorem dX4_hoursToBid_3 : decode cX4_hoursToBid 3 = .ok (.bipush 24, 2) := by decide +kernel
theorem dX4_hoursToBid_5 : decode cX4_hoursToBid 5 = .ok (.if_icmp .ge 33, 3) := by decide +kernel
theorem dX4_hoursToBid_8 : decode cX4_hoursToBid 8 = .ok (.aload_n 0, 1) := by decide +kernel
theorem dX4_hoursToBid_9 : decode cX4_hoursToBid 9 = .ok (.getfield 10, 3) := by decide +kernel
theorem dX4_hoursToBid_12 : decode cX4_hoursToBid 12 = .ok (.aload_n 0, 1) := by decide +kernel
theorem dX4_hoursToBid_13 : decode cX4_hoursToBid 13 = .ok (.getfield 10, 3) := by decide +kernel
theorem dX4_hoursToBid_16 : decode cX4_hoursToBid 16 = .ok (.getfield 224, 3) := by decide +kernel
theorem dX4_hoursToBid_19 : decode cX4_hoursToBid 19 = .ok (.iload_n 1, 1) := by decide +kernel
theorem dX4_hoursToBid_20 : decode cX4_hoursToBid 20 = .ok (.iadd, 1) := by decide +kernel
theorem dX4_hoursToBid_21 : decode cX4_hoursToBid 21 = .ok (.bipush 24, 2) := by decide +kernel
theorem dX4_hoursToBid_23 : decode cX4_hoursToBid 23 = .ok (.irem, 1) := by decide +kernel
theorem dX4_hoursToBid_24 : decode cX4_hoursToBid 24 = .ok (.invokevirtual 204, 3) := by decide +kernel
theorem dX4_hoursToBid_27 : decode cX4_hoursToBid 27 = .ok (.ifCond .eq 5, 3) := by decide +kernel
theorem dX4_hoursToBid_30 : decode cX4_hoursToBid 30 = .ok (.iload_n 1, 1) := by decide +kernel
theorem dX4_hoursToBid_31 : decode cX4_hoursToBid 31 = .ok (.ireturn, 1) := by decide +kernel
theorem dX4_hoursToBid_32 : decode cX4_hoursToBid 32 = .ok (.iinc 1 1, 3) := by decide +kernel
theorem dX4_hoursToBid_35 : decode cX4_hoursToBid 35 = .ok (.goto (-33), 3) := by decide +kernel
theorem dX4_hoursToBid_38 : decode cX4_hoursToBid 38 = .ok (.new 89, 3) := by decide +kernel
theorem dX4_hoursToBid_41 : decode cX4_hoursToBid 41 = .ok (.dup, 1) := by decide +kernel
theorem dX4_hoursToBid_42 : decode cX4_hoursToBid 42 = .ok (.ldc 241, 2) := by decide +kernel
theorem dX4_hoursToBid_44 : decode cX4_hoursToBid 44 = .ok (.invokespecial 93, 3) := by decide +kernel
theorem dX4_hoursToBid_47 : decode cX4_hoursToBid 47 = .ok (.athrow, 1) := by decide +kernel
theorem dX4_energyMade_0 : decode cX4_energyMade 0 = .ok (.aload_n 0, 1) := by decide +kernel
theorem dX4_energyMade_1 : decode cX4_energyMade 1 = .ok (.getfield 10, 3) := by decide +kernel
theorem dX4_energyMade_4 : decode cX4_energyMade 4 = .ok (.getfield 243, 3) := by decide +kernel
theorem dX4_energyMade_7 : decode cX4_energyMade 7 = .ok (.lreturn, 1) := by decide +kernel
theorem dX4_energyLost_0 : decode cX4_energyLost 0 = .ok (.aload_n 0, 1) := by decide +kernel
theorem dX4_energyLost_1 : decode cX4_energyLost 1 = .ok (.getfield 10, 3) := by decide +kernel
theorem dX4_energyLost_4 : decode cX4_energyLost 4 = .ok (.getfield 246, 3) := by decide +kernel
theorem dX4_energyLost_7 : decode cX4_energyLost 7 = .ok (.lreturn, 1) := by decide +kernel
theorem dX4_energySold_0 : decode cX4_energySold 0 = .ok (.aload_n 0, 1) := by decide +kernel
theorem dX4_energySold_1 : decode cX4_energySold 1 = .ok (.getfield 10, 3) := by decide +kernel
theorem dX4_energySold_4 : decode cX4_energySold 4 = .ok (.getfield 249, 3) := by decide +kernel
theorem dX4_energySold_7 : decode cX4_energySold 7 = .ok (.lreturn, 1) := by decide +kernel
theorem dX4_energySpilled_0 : decode cX4_energySpilled 0 = .ok (.aload_n 0, 1) := by decide +kernel
theorem dX4_energySpilled_1 : decode cX4_energySpilled 1 = .ok (.getfield 10, 3) := by decide +kernel
theorem dX4_energySpilled_4 : decode cX4_energySpilled 4 = .ok (.getfield 252, 3) := by decide +kernel
theorem dX4_energySpilled_7 : decode cX4_energySpilled 7 = .ok (.lreturn, 1) := by decide +kernel
theorem dX4_coins_0 : decode cX4_coins 0 = .ok (.aload_n 0, 1) := by decide +kernel
theorem dX4_coins_1 : decode cX4_coins 1 = .ok (.getfield 10, 3) := by decide +kernel
theorem dX4_coins_4 : decode cX4_coins 4 = .ok (.getfield 237, 3) := by decide +kernel
theorem dX4_coins_7 : decode cX4_coins 7 = .ok (.lreturn, 1) := by decide +kernel
theorem dX4_turbineByOutput_0 : decode cX4_turbineByOutput 0 = .ok (.iconst 0, 1) := by decide +kernel
theorem dX4_turbineByOutput_1 : decode cX4_turbineByOutput 1 = .ok (.istore_n 2, 1) := by decide +kernel
theorem dX4_turbineByOutput_2 : decode cX4_turbineByOutput 2 = .ok (.iload_n 2, 1) := by decide +kernel
theorem dX4_turbineByOutput_3 : decode cX4_turbineByOutput 3 = .ok (.aload_n 0, 1) := by decide +kernel
theorem dX4_turbineByOutput_4 : decode cX4_turbineByOutput 4 = .ok (.getfield 10, 3) := by decide +kernel
theorem dX4_turbineByOutput_7 : decode cX4_turbineByOutput 7 = .ok (.getfield 72, 3) := by decide +kernel
theorem dX4_turbineByOutput_10 : decode cX4_turbineByOutput 10 = .ok (.if_icmp .ge 23, 3) := by decide +kernel
theorem dX4_turbineByOutput_13 : decode cX4_turbineByOutput 13 = .ok (.aload_n 0, 1) := by decide +kernel
theorem dX4_turbineByOutput_14 : decode cX4_turbineByOutput 14 = .ok (.getfield 10, 3) := by decide +kernel
theorem dX4_turbineByOutput_17 : decode cX4_turbineByOutput 17 = .ok (.iload_n 2, 1) := by decide +kernel
theorem dX4_turbineByOutput_18 : decode cX4_turbineByOutput 18 = .ok (.invokevirtual 255, 3) := by decide +kernel
theorem dX4_turbineByOutput_21 : decode cX4_turbineByOutput 21 = .ok (.iload_n 1, 1) := by decide +kernel
theorem dX4_turbineByOutput_22 : decode cX4_turbineByOutput 22 = .ok (.if_icmp .ne 5, 3) := by decide +kernel
theorem dX4_turbineByOutput_25 : decode cX4_turbineByOutput 25 = .ok (.iload_n 2, 1) := by decide +kernel
theorem dX4_turbineByOutput_26 : decode cX4_turbineByOutput 26 = .ok (.ireturn, 1) := by decide +kernel
theorem dX4_turbineByOutput_27 : decode cX4_turbineByOutput 27 = .ok (.iinc 2 1, 3) := by decide +kernel
theorem dX4_turbineByOutput_30 : decode cX4_turbineByOutput 30 = .ok (.goto (-28), 3) := by decide +kernel
theorem dX4_turbineByOutput_33 : decode cX4_turbineByOutput 33 = .ok (.new 89, 3) := by decide +kernel
theorem dX4_turbineByOutput_36 : decode cX4_turbineByOutput 36 = .ok (.dup, 1) := by decide +kernel
theorem dX4_turbineByOutput_37 : decode cX4_turbineByOutput 37 = .ok (.ldc_w 258, 3) := by decide +kernel
theorem dX4_turbineByOutput_40 : decode cX4_turbineByOutput 40 = .ok (.invokespecial 93, 3) := by decide +kernel
theorem dX4_turbineByOutput_43 : decode cX4_turbineByOutput 43 = .ok (.athrow, 1) := by decide +kernel
theorem dX4_meanOutput_0 : decode cX4_meanOutput 0 = .ok (.aload_n 0, 1) := by decide +kernel
theorem dX4_meanOutput_1 : decode cX4_meanOutput 1 = .ok (.getfield 10, 3) := by decide +kernel
theorem dX4_meanOutput_4 : decode cX4_meanOutput 4 = .ok (.getfield 72, 3) := by decide +kernel
theorem dX4_meanOutput_7 : decode cX4_meanOutput 7 = .ok (.ifCond .gt 14, 3) := by decide +kernel
theorem dX4_meanOutput_10 : decode cX4_meanOutput 10 = .ok (.new 260, 3) := by decide +kernel
theorem dX4_meanOutput_13 : decode cX4_meanOutput 13 = .ok (.dup, 1) := by decide +kernel
theorem dX4_meanOutput_14 : decode cX4_meanOutput 14 = .ok (.ldc_w 262, 3) := by decide +kernel
theorem dX4_meanOutput_17 : decode cX4_meanOutput 17 = .ok (.invokespecial 264, 3) := by decide +kernel
theorem dX4_meanOutput_20 : decode cX4_meanOutput 20 = .ok (.athrow, 1) := by decide +kernel
theorem dX4_meanOutput_21 : decode cX4_meanOutput 21 = .ok (.aload_n 0, 1) := by decide +kernel
theorem dX4_meanOutput_22 : decode cX4_meanOutput 22 = .ok (.getfield 10, 3) := by decide +kernel
theorem dX4_meanOutput_25 : decode cX4_meanOutput 25 = .ok (.aload_n 0, 1) := by decide +kernel
theorem dX4_meanOutput_26 : decode cX4_meanOutput 26 = .ok (.getfield 10, 3) := by decide +kernel
theorem dX4_meanOutput_29 : decode cX4_meanOutput 29 = .ok (.getfield 137, 3) := by decide +kernel
theorem dX4_meanOutput_32 : decode cX4_meanOutput 32 = .ok (.aload_n 0, 1) := by decide +kernel
theorem dX4_meanOutput_33 : decode cX4_meanOutput 33 = .ok (.getfield 10, 3) := by decide +kernel
theorem dX4_meanOutput_36 : decode cX4_meanOutput 36 = .ok (.getfield 141, 3) := by decide +kernel
theorem dX4_meanOutput_39 : decode cX4_meanOutput 39 = .ok (.invokevirtual 158, 3) := by decide +kernel
theorem dX4_meanOutput_42 : decode cX4_meanOutput 42 = .ok (.i2d, 1) := by decide +kernel
theorem dX4_meanOutput_43 : decode cX4_meanOutput 43 = .ok (.aload_n 0, 1) := by decide +kernel
theorem dX4_meanOutput_44 : decode cX4_meanOutput 44 = .ok (.getfield 10, 3) := by decide +kernel
theorem dX4_meanOutput_47 : decode cX4_meanOutput 47 = .ok (.getfield 72, 3) := by decide +kernel
theorem dX4_meanOutput_50 : decode cX4_meanOutput 50 = .ok (.i2d, 1) := by decide +kernel
theorem dX4_meanOutput_51 : decode cX4_meanOutput 51 = .ok (.ddiv, 1) := by decide +kernel
theorem dX4_meanOutput_52 : decode cX4_meanOutput 52 = .ok (.dreturn, 1) := by decide +kernel
theorem dX4_runningShare_0 : decode cX4_runningShare 0 = .ok (.aload_n 0, 1) := by decide +kernel
theorem dX4_runningShare_1 : decode cX4_runningShare 1 = .ok (.getfield 10, 3) := by decide +kernel
theorem dX4_runningShare_4 : decode cX4_runningShare 4 = .ok (.getfield 72, 3) := by decide +kernel
theorem dX4_runningShare_7 : decode cX4_runningShare 7 = .ok (.ifCond .gt 14, 3) := by decide +kernel
theorem dX4_runningShare_10 : decode cX4_runningShare 10 = .ok (.new 260, 3) := by decide +kernel
theorem dX4_runningShare_13 : decode cX4_runningShare 13 = .ok (.dup, 1) := by decide +kernel
theorem dX4_runningShare_14 : decode cX4_runningShare 14 = .ok (.ldc_w 262, 3) := by decide +kernel
theorem dX4_runningShare_17 : decode cX4_runningShare 17 = .ok (.invokespecial 264, 3) := by decide +kernel
theorem dX4_runningShare_20 : decode cX4_runningShare 20 = .ok (.athrow, 1) := by decide +kernel
theorem dX4_runningShare_21 : decode cX4_runningShare 21 = .ok (.aload_n 0, 1) := by decide +kernel
theorem dX4_runningShare_22 : decode cX4_runningShare 22 = .ok (.getfield 10, 3) := by decide +kernel
theorem dX4_runningShare_25 : decode cX4_runningShare 25 = .ok (.iconst 1, 1) := by decide +kernel
theorem dX4_runningShare_26 : decode cX4_runningShare 26 = .ok (.invokevirtual 265, 3) := by decide +kernel
theorem dX4_runningShare_29 : decode cX4_runningShare 29 = .ok (.i2f, 1) := by decide +kernel
theorem dX4_runningShare_30 : decode cX4_runningShare 30 = .ok (.aload_n 0, 1) := by decide +kernel
theorem dX4_runningShare_31 : decode cX4_runningShare 31 = .ok (.getfield 10, 3) := by decide +kernel
theorem dX4_runningShare_34 : decode cX4_runningShare 34 = .ok (.getfield 72, 3) := by decide +kernel
theorem dX4_runningShare_37 : decode cX4_runningShare 37 = .ok (.i2f, 1) := by decide +kernel
theorem dX4_runningShare_38 : decode cX4_runningShare 38 = .ok (.fdiv, 1) := by decide +kernel
theorem dX4_runningShare_39 : decode cX4_runningShare 39 = .ok (.freturn, 1) := by decide +kernel
theorem dX4_isConsistent_0 : decode cX4_isConsistent 0 = .ok (.aload_n 0, 1) := by decide +kernel
theorem dX4_isConsistent_1 : decode cX4_isConsistent 1 = .ok (.getfield 10, 3) := by decide +kernel
theorem dX4_isConsistent_4 : decode cX4_isConsistent 4 = .ok (.aload_n 0, 1) := by decide +kernel
theorem dX4_isConsistent_5 : decode cX4_isConsistent 5 = .ok (.getfield 10, 3) := by decide +kernel
theorem dX4_isConsistent_8 : decode cX4_isConsistent 8 = .ok (.getfield 137, 3) := by decide +kernel
theorem dX4_isConsistent_11 : decode cX4_isConsistent 11 = .ok (.aload_n 0, 1) := by decide +kernel
theorem dX4_isConsistent_12 : decode cX4_isConsistent 12 = .ok (.getfield 10, 3) := by decide +kernel
theorem dX4_isConsistent_15 : decode cX4_isConsistent 15 = .ok (.getfield 141, 3) := by decide +kernel
theorem dX4_isConsistent_18 : decode cX4_isConsistent 18 = .ok (.invokevirtual 158, 3) := by decide +kernel
theorem dX4_isConsistent_21 : decode cX4_isConsistent 21 = .ok (.aload_n 0, 1) := by decide +kernel
theorem dX4_isConsistent_22 : decode cX4_isConsistent 22 = .ok (.getfield 10, 3) := by decide +kernel
theorem dX4_isConsistent_25 : decode cX4_isConsistent 25 = .ok (.invokevirtual 161, 3) := by decide +kernel
theorem dX4_isConsistent_28 : decode cX4_isConsistent 28 = .ok (.if_icmp .ne 51, 3) := by decide +kernel
theorem dX4_isConsistent_31 : decode cX4_isConsistent 31 = .ok (.aload_n 0, 1) := by decide +kernel
theorem dX4_isConsistent_32 : decode cX4_isConsistent 32 = .ok (.getfield 10, 3) := by decide +kernel
theorem dX4_isConsistent_35 : decode cX4_isConsistent 35 = .ok (.getfield 243, 3) := by decide +kernel
theorem dX4_isConsistent_38 : decode cX4_isConsistent 38 = .ok (.aload_n 0, 1) := by decide +kernel
theorem dX4_isConsistent_39 : decode cX4_isConsistent 39 = .ok (.getfield 10, 3) := by decide +kernel
theorem dX4_isConsistent_42 : decode cX4_isConsistent 42 = .ok (.getfield 246, 3) := by decide +kernel
theorem dX4_isConsistent_45 : decode cX4_isConsistent 45 = .ok (.aload_n 0, 1) := by decide +kernel
theorem dX4_isConsistent_46 : decode cX4_isConsistent 46 = .ok (.getfield 10, 3) := by decide +kernel
theorem dX4_isConsistent_49 : decode cX4_isConsistent 49 = .ok (.getfield 249, 3) := by decide +kernel
theorem dX4_isConsistent_52 : decode cX4_isConsistent 52 = .ok (.ladd, 1) := by decide +kernel
theorem dX4_isConsistent_53 : decode cX4_isConsistent 53 = .ok (.aload_n 0, 1) := by decide +kernel
theorem dX4_isConsistent_54 : decode cX4_isConsistent 54 = .ok (.getfield 10, 3) := by decide +kernel
theorem dX4_isConsistent_57 : decode cX4_isConsistent 57 = .ok (.getfield 252, 3) := by decide +kernel
theorem dX4_isConsistent_60 : decode cX4_isConsistent 60 = .ok (.ladd, 1) := by decide +kernel
theorem dX4_isConsistent_61 : decode cX4_isConsistent 61 = .ok (.lcmp, 1) := by decide +kernel
theorem dX4_isConsistent_62 : decode cX4_isConsistent 62 = .ok (.ifCond .ne 17, 3) := by decide +kernel
theorem dX4_isConsistent_65 : decode cX4_isConsistent 65 = .ok (.aload_n 0, 1) := by decide +kernel
theorem dX4_isConsistent_66 : decode cX4_isConsistent 66 = .ok (.getfield 10, 3) := by decide +kernel
theorem dX4_isConsistent_69 : decode cX4_isConsistent 69 = .ok (.invokevirtual 129, 3) := by decide +kernel
theorem dX4_isConsistent_72 : decode cX4_isConsistent 72 = .ok (.ifCond .lt 7, 3) := by decide +kernel
theorem dX4_isConsistent_75 : decode cX4_isConsistent 75 = .ok (.iconst 1, 1) := by decide +kernel
theorem dX4_isConsistent_76 : decode cX4_isConsistent 76 = .ok (.goto 4, 3) := by decide +kernel
theorem dX4_isConsistent_79 : decode cX4_isConsistent 79 = .ok (.iconst 0, 1) := by decide +kernel
theorem dX4_isConsistent_80 : decode cX4_isConsistent 80 = .ok (.ireturn, 1) := by decide +kernel
theorem dX4_writeTurbine_0 : decode cX4_writeTurbine 0 = .ok (.aload_n 0, 1) := by decide +kernel
theorem dX4_writeTurbine_1 : decode cX4_writeTurbine 1 = .ok (.iload_n 1, 1) := by decide +kernel
theorem dX4_writeTurbine_2 : decode cX4_writeTurbine 2 = .ok (.invokevirtual 94, 3) := by decide +kernel
theorem dX4_writeTurbine_5 : decode cX4_writeTurbine 5 = .ok (.aload_n 0, 1) := by decide +kernel
theorem dX4_writeTurbine_6 : decode cX4_writeTurbine 6 = .ok (.getfield 39, 3) := by decide +kernel
theorem dX4_writeTurbine_9 : decode cX4_writeTurbine 9 = .ok (.invokevirtual 268, 3) := by decide +kernel
theorem dX4_writeTurbine_12 : decode cX4_writeTurbine 12 = .ok (.aload_n 0, 1) := by decide +kernel
theorem dX4_writeTurbine_13 : decode cX4_writeTurbine 13 = .ok (.getfield 39, 3) := by decide +kernel
theorem dX4_writeTurbine_16 : decode cX4_writeTurbine 16 = .ok (.iload_n 1, 1) := by decide +kernel
theorem dX4_writeTurbine_17 : decode cX4_writeTurbine 17 = .ok (.invokevirtual 271, 3) := by decide +kernel
theorem dX4_writeTurbine_20 : decode cX4_writeTurbine 20 = .ok (.aload_n 0, 1) := by decide +kernel
theorem dX4_writeTurbine_21 : decode cX4_writeTurbine 21 = .ok (.bipush 64, 2) := by decide +kernel
theorem dX4_writeTurbine_23 : decode cX4_writeTurbine 23 = .ok (.aload_n 0, 1) := by decide +kernel
theorem dX4_writeTurbine_24 : decode cX4_writeTurbine 24 = .ok (.getfield 10, 3) := by decide +kernel
theorem dX4_writeTurbine_27 : decode cX4_writeTurbine 27 = .ok (.getfield 98, 3) := by decide +kernel
theorem dX4_writeTurbine_30 : decode cX4_writeTurbine 30 = .ok (.iload_n 1, 1) := by decide +kernel
theorem dX4_writeTurbine_31 : decode cX4_writeTurbine 31 = .ok (.invokestatic 102, 3) := by decide +kernel
theorem dX4_writeTurbine_34 : decode cX4_writeTurbine 34 = .ok (.invokevirtual 274, 3) := by decide +kernel
theorem dX4_writeTurbine_37 : decode cX4_writeTurbine 37 = .ok (.aload_n 0, 1) := by decide +kernel
theorem dX4_writeTurbine_38 : decode cX4_writeTurbine 38 = .ok (.bipush 44, 2) := by decide +kernel
theorem dX4_writeTurbine_40 : decode cX4_writeTurbine 40 = .ok (.aload_n 0, 1) := by decide +kernel
theorem dX4_writeTurbine_41 : decode cX4_writeTurbine 41 = .ok (.getfield 10, 3) := by decide +kernel
theorem dX4_writeTurbine_44 : decode cX4_writeTurbine 44 = .ok (.getfield 106, 3) := by decide +kernel
theorem dX4_writeTurbine_47 : decode cX4_writeTurbine 47 = .ok (.iload_n 1, 1) := by decide +kernel
theorem dX4_writeTurbine_48 : decode cX4_writeTurbine 48 = .ok (.invokestatic 102, 3) := by decide +kernel
theorem dX4_writeTurbine_51 : decode cX4_writeTurbine 51 = .ok (.invokevirtual 274, 3) := by decide +kernel
theorem dX4_writeTurbine_54 : decode cX4_writeTurbine 54 = .ok (.aload_n 0, 1) := by decide +kernel
theorem dX4_writeTurbine_55 : decode cX4_writeTurbine 55 = .ok (.bipush 112, 2) := by decide +kernel
theorem dX4_writeTurbine_57 : decode cX4_writeTurbine 57 = .ok (.aload_n 0, 1) := by decide +kernel
theorem dX4_writeTurbine_58 : decode cX4_writeTurbine 58 = .ok (.getfield 10, 3) := by decide +kernel
theorem dX4_writeTurbine_61 : decode cX4_writeTurbine 61 = .ok (.getfield 109, 3) := by decide +kernel
theorem dX4_writeTurbine_64 : decode cX4_writeTurbine 64 = .ok (.iload_n 1, 1) := by decide +kernel
theorem dX4_writeTurbine_65 : decode cX4_writeTurbine 65 = .ok (.invokestatic 102, 3) := by decide +kernel
theorem dX4_writeTurbine_68 : decode cX4_writeTurbine 68 = .ok (.invokevirtual 274, 3) := by decide +kernel
theorem dX4_writeTurbine_71 : decode cX4_writeTurbine 71 = .ok (.aload_n 0, 1) := by decide +kernel
theorem dX4_writeTurbine_72 : decode cX4_writeTurbine 72 = .ok (.bipush 61, 2) := by decide +kernel
theorem dX4_writeTurbine_74 : decode cX4_writeTurbine 74 = .ok (.aload_n 0, 1) := by decide +kernel
theorem dX4_writeTurbine_75 : decode cX4_writeTurbine 75 = .ok (.getfield 10, 3) := by decide +kernel
theorem dX4_writeTurbine_78 : decode cX4_writeTurbine 78 = .ok (.iload_n 1, 1) := by decide +kernel
theorem dX4_writeTurbine_79 : decode cX4_writeTurbine 79 = .ok (.aload_n 0, 1) := by decide +kernel
theorem dX4_writeTurbine_80 : decode cX4_writeTurbine 80 = .ok (.getfield 10, 3) := by decide +kernel
theorem dX4_writeTurbine_83 : decode cX4_writeTurbine 83 = .ok (.getfield 137, 3) := by decide +kernel
theorem dX4_writeTurbine_86 : decode cX4_writeTurbine 86 = .ok (.aload_n 0, 1) := by decide +kernel
theorem dX4_writeTurbine_87 : decode cX4_writeTurbine 87 = .ok (.getfield 10, 3) := by decide +kernel
theorem dX4_writeTurbine_90 : decode cX4_writeTurbine 90 = .ok (.getfield 141, 3) := by decide +kernel
theorem dX4_writeTurbine_93 : decode cX4_writeTurbine 93 = .ok (.invokevirtual 154, 3) := by decide +kernel
theorem dX4_writeTurbine_96 : decode cX4_writeTurbine 96 = .ok (.invokevirtual 274, 3) := by decide +kernel
theorem dX4_writeTurbine_99 : decode cX4_writeTurbine 99 = .ok (.aload_n 0, 1) := by decide +kernel
theorem dX4_writeTurbine_100 : decode cX4_writeTurbine 100 = .ok (.getfield 10, 3) := by decide +kernel
theorem dX4_writeTurbine_103 : decode cX4_writeTurbine 103 = .ok (.iload_n 1, 1) := by decide +kernel
theorem dX4_writeTurbine_104 : decode cX4_writeTurbine 104 = .ok (.invokevirtual 115, 3) := by decide +kernel
theorem dX4_writeTurbine_107 : decode cX4_writeTurbine 107 = .ok (.ifCond .eq 23, 3) := by decide +kernel
theorem dX4_writeTurbine_110 : decode cX4_writeTurbine 110 = .ok (.aload_n 0, 1) := by decide +kernel
theorem dX4_writeTurbine_111 : decode cX4_writeTurbine 111 = .ok (.bipush 60, 2) := by decide +kernel
theorem dX4_writeTurbine_113 : decode cX4_writeTurbine 113 = .ok (.aload_n 0, 1) := by decide +kernel
theorem dX4_writeTurbine_114 : decode cX4_writeTurbine 114 = .ok (.getfield 10, 3) := by decide +kernel
theorem dX4_writeTurbine_117 : decode cX4_writeTurbine 117 = .ok (.getfield 121, 3) := by decide +kernel
theorem dX4_writeTurbine_120 : decode cX4_writeTurbine 120 = .ok (.iload_n 1, 1) := by decide +kernel
theorem dX4_writeTurbine_121 : decode cX4_writeTurbine 121 = .ok (.invokestatic 102, 3) := by decide +kernel
theorem dX4_writeTurbine_124 : decode cX4_writeTurbine 124 = .ok (.invokevirtual 274, 3) := by decide +kernel
theorem dX4_writeTurbine_127 : decode cX4_writeTurbine 127 = .ok (.goto 56, 3) := by decide +kernel
theorem dX4_writeTurbine_130 : decode cX4_writeTurbine 130 = .ok (.aload_n 0, 1) := by decide +kernel
theorem dX4_writeTurbine_131 : decode cX4_writeTurbine 131 = .ok (.getfield 10, 3) := by decide +kernel
theorem dX4_writeTurbine_134 : decode cX4_writeTurbine 134 = .ok (.iload_n 1, 1) := by decide +kernel
theorem dX4_writeTurbine_135 : decode cX4_writeTurbine 135 = .ok (.iconst 2, 1) := by decide +kernel
theorem dX4_writeTurbine_136 : decode cX4_writeTurbine 136 = .ok (.invokevirtual 112, 3) := by decide +kernel
theorem dX4_writeTurbine_139 : decode cX4_writeTurbine 139 = .ok (.ifCond .eq 15, 3) := by decide +kernel
theorem dX4_writeTurbine_142 : decode cX4_writeTurbine 142 = .ok (.aload_n 0, 1) := by decide +kernel
theorem dX4_writeTurbine_143 : decode cX4_writeTurbine 143 = .ok (.getfield 39, 3) := by decide +kernel
theorem dX4_writeTurbine_146 : decode cX4_writeTurbine 146 = .ok (.bipush 120, 2) := by decide +kernel
theorem dX4_writeTurbine_148 : decode cX4_writeTurbine 148 = .ok (.invokevirtual 278, 3) := by decide +kernel
theorem dX4_writeTurbine_151 : decode cX4_writeTurbine 151 = .ok (.goto 32, 3) := by decide +kernel
theorem dX4_writeTurbine_154 : decode cX4_writeTurbine 154 = .ok (.aload_n 0, 1) := by decide +kernel
theorem dX4_writeTurbine_155 : decode cX4_writeTurbine 155 = .ok (.getfield 10, 3) := by decide +kernel
theorem dX4_writeTurbine_158 : decode cX4_writeTurbine 158 = .ok (.iload_n 1, 1) := by decide +kernel
theorem dX4_writeTurbine_159 : decode cX4_writeTurbine 159 = .ok (.iconst 3, 1) := by decide +kernel
theorem dX4_writeTurbine_160 : decode cX4_writeTurbine 160 = .ok (.invokevirtual 112, 3) := by decide +kernel
theorem dX4_writeTurbine_163 : decode cX4_writeTurbine 163 = .ok (.ifCond .eq 20, 3) := by decide +kernel
theorem dX4_writeTurbine_166 : decode cX4_writeTurbine 166 = .ok (.aload_n 0, 1) := by decide +kernel
theorem dX4_writeTurbine_167 : decode cX4_writeTurbine 167 = .ok (.bipush 115, 2) := by decide +kernel
theorem dX4_writeTurbine_169 : decode cX4_writeTurbine 169 = .ok (.aload_n 0, 1) := by decide +kernel
theorem dX4_writeTurbine_170 : decode cX4_writeTurbine 170 = .ok (.getfield 10, 3) := by decide +kernel
theorem dX4_writeTurbine_173 : decode cX4_writeTurbine 173 = .ok (.getfield 126, 3) := by decide +kernel
theorem dX4_writeTurbine_176 : decode cX4_writeTurbine 176 = .ok (.iload_n 1, 1) := by decide +kernel
theorem dX4_writeTurbine_177 : decode cX4_writeTurbine 177 = .ok (.invokestatic 102, 3) := by decide +kernel
theorem dX4_writeTurbine_180 : decode cX4_writeTurbine 180 = .ok (.invokevirtual 274, 3) := by decide +kernel
theorem dX4_writeTurbine_183 : decode cX4_writeTurbine 183 = .ok (.aload_n 0, 1) := by decide +kernel
theorem dX4_writeTurbine_184 : decode cX4_writeTurbine 184 = .ok (.getfield 39, 3) := by decide +kernel
theorem dX4_writeTurbine_187 : decode cX4_writeTurbine 187 = .ok (.getfield 281, 3) := by decide +kernel
theorem dX4_writeTurbine_190 : decode cX4_writeTurbine 190 = .ok (.ireturn, 1) := by decide +kernel
theorem dX4_outputAt_0 : decode cX4_outputAt 0 = .ok (.iload_n 1, 1) := by decide +kernel
theorem dX4_outputAt_1 : decode cX4_outputAt 1 = .ok (.iconst 0, 1) := by decide +kernel
theorem dX4_outputAt_2 : decode cX4_outputAt 2 = .ok (.aload_n 0, 1) := by decide +kernel
theorem dX4_outputAt_3 : decode cX4_outputAt 3 = .ok (.getfield 39, 3) := by decide +kernel
theorem dX4_outputAt_6 : decode cX4_outputAt 6 = .ok (.getfield 281, 3) := by decide +kernel
theorem dX4_outputAt_9 : decode cX4_outputAt 9 = .ok (.iconst 1, 1) := by decide +kernel
theorem dX4_outputAt_10 : decode cX4_outputAt 10 = .ok (.isub, 1) := by decide +kernel
theorem dX4_outputAt_11 : decode cX4_outputAt 11 = .ok (.invokestatic 227, 3) := by decide +kernel
theorem dX4_outputAt_14 : decode cX4_outputAt 14 = .ok (.ifCond .ne 14, 3) := by decide +kernel
theorem dX4_outputAt_17 : decode cX4_outputAt 17 = .ok (.new 79, 3) := by decide +kernel
theorem dX4_outputAt_20 : decode cX4_outputAt 20 = .ok (.dup, 1) := by decide +kernel
theorem dX4_outputAt_21 : decode cX4_outputAt 21 = .ok (.ldc_w 283, 3) := by decide +kernel
theorem dX4_outputAt_24 : decode cX4_outputAt 24 = .ok (.invokespecial 83, 3) := by decide +kernel
theorem dX4_outputAt_27 : decode cX4_outputAt 27 = .ok (.athrow, 1) := by decide +kernel
theorem dX4_outputAt_28 : decode cX4_outputAt 28 = .ok (.aload_n 0, 1) := by decide +kernel
theorem dX4_outputAt_29 : decode cX4_outputAt 29 = .ok (.getfield 39, 3) := by decide +kernel
theorem dX4_outputAt_32 : decode cX4_outputAt 32 = .ok (.iload_n 1, 1) := by decide +kernel
theorem dX4_outputAt_33 : decode cX4_outputAt 33 = .ok (.invokevirtual 285, 3) := by decide +kernel
theorem dX4_outputAt_36 : decode cX4_outputAt 36 = .ok (.ireturn, 1) := by decide +kernel
theorem dX4_appendInput_0 : decode cX4_appendInput 0 = .ok (.iload_n 1, 1) := by decide +kernel
theorem dX4_appendInput_1 : decode cX4_appendInput 1 = .ok (.bipush 32, 2) := by decide +kernel
theorem dX4_appendInput_3 : decode cX4_appendInput 3 = .ok (.bipush 126, 2) := by decide +kernel
theorem dX4_appendInput_5 : decode cX4_appendInput 5 = .ok (.invokestatic 227, 3) := by decide +kernel
theorem dX4_appendInput_8 : decode cX4_appendInput 8 = .ok (.ifCond .ne 14, 3) := by decide +kernel
theorem dX4_appendInput_11 : decode cX4_appendInput 11 = .ok (.new 167, 3) := by decide +kernel
theorem dX4_appendInput_14 : decode cX4_appendInput 14 = .ok (.dup, 1) := by decide +kernel
theorem dX4_appendInput_15 : decode cX4_appendInput 15 = .ok (.ldc_w 288, 3) := by decide +kernel
theorem dX4_appendInput_18 : decode cX4_appendInput 18 = .ok (.invokespecial 171, 3) := by decide +kernel
theorem dX4_appendInput_21 : decode cX4_appendInput 21 = .ok (.athrow, 1) := by decide +kernel
theorem dX4_appendInput_22 : decode cX4_appendInput 22 = .ok (.aload_n 0, 1) := by decide +kernel
theorem dX4_appendInput_23 : decode cX4_appendInput 23 = .ok (.getfield 32, 3) := by decide +kernel
theorem dX4_appendInput_26 : decode cX4_appendInput 26 = .ok (.getfield 290, 3) := by decide +kernel
theorem dX4_appendInput_29 : decode cX4_appendInput 29 = .ok (.getfield 281, 3) := by decide +kernel
theorem dX4_appendInput_32 : decode cX4_appendInput 32 = .ok (.bipush 60, 2) := by decide +kernel
theorem dX4_appendInput_34 : decode cX4_appendInput 34 = .ok (.if_icmp .lt 14, 3) := by decide +kernel
theorem dX4_appendInput_37 : decode cX4_appendInput 37 = .ok (.new 293, 3) := by decide +kernel
theorem dX4_appendInput_40 : decode cX4_appendInput 40 = .ok (.dup, 1) := by decide +kernel
theorem dX4_appendInput_41 : decode cX4_appendInput 41 = .ok (.ldc_w 295, 3) := by decide +kernel
theorem dX4_appendInput_44 : decode cX4_appendInput 44 = .ok (.invokespecial 297, 3) := by decide +kernel
theorem dX4_appendInput_47 : decode cX4_appendInput 47 = .ok (.athrow, 1) := by decide +kernel
theorem dX4_appendInput_48 : decode cX4_appendInput 48 = .ok (.aload_n 0, 1) := by decide +kernel
theorem dX4_appendInput_49 : decode cX4_appendInput 49 = .ok (.getfield 32, 3) := by decide +kernel
theorem dX4_appendInput_52 : decode cX4_appendInput 52 = .ok (.getfield 290, 3) := by decide +kernel
theorem dX4_appendInput_55 : decode cX4_appendInput 55 = .ok (.iload_n 1, 1) := by decide +kernel
theorem dX4_appendInput_56 : decode cX4_appendInput 56 = .ok (.invokevirtual 278, 3) := by decide +kernel
theorem dX4_appendInput_59 : decode cX4_appendInput 59 = .ok (.aload_n 0, 1) := by decide +kernel
theorem dX4_appendInput_60 : decode cX4_appendInput 60 = .ok (.getfield 32, 3) := by decide +kernel
theorem dX4_appendInput_63 : decode cX4_appendInput 63 = .ok (.getfield 290, 3) := by decide +kernel
theorem dX4_appendInput_66 : decode cX4_appendInput 66 = .ok (.getfield 281, 3) := by decide +kernel
theorem dX4_appendInput_69 : decode cX4_appendInput 69 = .ok (.ireturn, 1) := by decide +kernel
theorem dX4_execute_0 : decode cX4_execute 0 = .ok (.aload_n 0, 1) := by decide +kernel
theorem dX4_execute_1 : decode cX4_execute 1 = .ok (.getfield 32, 3) := by decide +kernel
theorem dX4_execute_4 : decode cX4_execute 4 = .ok (.invokevirtual 298, 3) := by decide +kernel
theorem dX4_execute_7 : decode cX4_execute 7 = .ok (.istore_n 1, 1) := by decide +kernel
theorem dX4_execute_8 : decode cX4_execute 8 = .ok (.iload_n 1, 1) := by decide +kernel
theorem dX4_execute_9 : decode cX4_execute 9 = .ok (.ifCond .ne 35, 3) := by decide +kernel
theorem dX4_execute_12 : decode cX4_execute 12 = .ok (.aload_n 0, 1) := by decide +kernel
theorem dX4_execute_13 : decode cX4_execute 13 = .ok (.aload_n 0, 1) := by decide +kernel
theorem dX4_execute_14 : decode cX4_execute 14 = .ok (.getfield 32, 3) := by decide +kernel
theorem dX4_execute_17 : decode cX4_execute 17 = .ok (.getfield 301, 3) := by decide +kernel
theorem dX4_execute_20 : decode cX4_execute 20 = .ok (.putfield 43, 3) := by decide +kernel
theorem dX4_execute_23 : decode cX4_execute 23 = .ok (.aload_n 0, 1) := by decide +kernel
theorem dX4_execute_24 : decode cX4_execute 24 = .ok (.getfield 32, 3) := by decide +kernel
theorem dX4_execute_27 : decode cX4_execute 27 = .ok (.getfield 290, 3) := by decide +kernel
theorem dX4_execute_30 : decode cX4_execute 30 = .ok (.invokevirtual 268, 3) := by decide +kernel
theorem dX4_execute_33 : decode cX4_execute 33 = .ok (.new 167, 3) := by decide +kernel
theorem dX4_execute_36 : decode cX4_execute 36 = .ok (.dup, 1) := by decide +kernel
theorem dX4_execute_37 : decode cX4_execute 37 = .ok (.ldc_w 304, 3) := by decide +kernel
theorem dX4_execute_40 : decode cX4_execute 40 = .ok (.invokespecial 171, 3) := by decide +kernel
theorem dX4_execute_43 : decode cX4_execute 43 = .ok (.athrow, 1) := by decide +kernel
theorem dX4_execute_44 : decode cX4_execute 44 = .ok (.aload_n 0, 1) := by decide +kernel
theorem dX4_execute_45 : decode cX4_execute 45 = .ok (.getfield 16, 3) := by decide +kernel
theorem dX4_execute_48 : decode cX4_execute 48 = .ok (.aload_n 0, 1) := by decide +kernel
theorem dX4_execute_49 : decode cX4_execute 49 = .ok (.getfield 10, 3) := by decide +kernel
theorem dX4_execute_52 : decode cX4_execute 52 = .ok (.invokevirtual 233, 3) := by decide +kernel
theorem dX4_execute_55 : decode cX4_execute 55 = .ok (.aload_n 0, 1) := by decide +kernel
theorem dX4_execute_56 : decode cX4_execute 56 = .ok (.getfield 32, 3) := by decide +kernel
theorem dX4_execute_59 : decode cX4_execute 59 = .ok (.invokevirtual 306, 3) := by decide +kernel
theorem dX4_execute_62 : decode cX4_execute 62 = .ok (.iconst 0, 1) := by decide +kernel
theorem dX4_execute_63 : decode cX4_execute 63 = .ok (.istore_n 2, 1) := by decide +kernel
theorem dX4_execute_64 : decode cX4_execute 64 = .ok (.iload_n 2, 1) := by decide +kernel
theorem dX4_execute_65 : decode cX4_execute 65 = .ok (.iload_n 1, 1) := by decide +kernel
theorem dX4_execute_66 : decode cX4_execute 66 = .ok (.if_icmp .ge 109, 3) := by decide +kernel
theorem dX4_execute_69 : decode cX4_execute 69 = .ok (.aload_n 0, 1) := by decide +kernel
theorem dX4_execute_70 : decode cX4_execute 70 = .ok (.getfield 32, 3) := by decide +kernel
theorem dX4_execute_73 : decode cX4_execute 73 = .ok (.invokevirtual 309, 3) := by decide +kernel
theorem dX4_execute_76 : decode cX4_execute 76 = .ok (.pop, 1) := by decide +kernel
theorem dX4_execute_77 : decode cX4_execute 77 = .ok (.aload_n 0, 1) := by decide +kernel
theorem dX4_execute_78 : decode cX4_execute 78 = .ok (.getfield 32, 3) := by decide +kernel
theorem dX4_execute_81 : decode cX4_execute 81 = .ok (.iconst 0, 1) := by decide +kernel
theorem dX4_execute_82 : decode cX4_execute 82 = .ok (.invokevirtual 313, 3) := by decide +kernel
theorem dX4_execute_85 : decode cX4_execute 85 = .ok (.istore_n 3, 1) := by decide +kernel
theorem dX4_execute_86 : decode cX4_execute 86 = .ok (.aload_n 0, 1) := by decide +kernel
theorem dX4_execute_87 : decode cX4_execute 87 = .ok (.getfield 32, 3) := by decide +kernel
theorem dX4_execute_90 : decode cX4_execute 90 = .ok (.iconst 1, 1) := by decide +kernel
theorem dX4_execute_91 : decode cX4_execute 91 = .ok (.invokevirtual 313, 3) := by decide +kernel
theorem dX4_execute_94 : decode cX4_execute 94 = .ok (.istore 4, 2) := by decide +kernel
theorem dX4_execute_96 : decode cX4_execute 96 = .ok (.aload_n 0, 1) := by decide +kernel
theorem dX4_execute_97 : decode cX4_execute 97 = .ok (.getfield 32, 3) := by decide +kernel
theorem dX4_execute_100 : decode cX4_execute 100 = .ok (.iconst 2, 1) := by decide +kernel
theorem dX4_execute_101 : decode cX4_execute 101 = .ok (.invokevirtual 313, 3) := by decide +kernel
theorem dX4_execute_104 : decode cX4_execute 104 = .ok (.istore 5, 2) := by decide +kernel
theorem dX4_execute_106 : decode cX4_execute 106 = .ok (.aload_n 0, 1) := by decide +kernel
theorem dX4_execute_107 : decode cX4_execute 107 = .ok (.getfield 16, 3) := by decide +kernel
theorem dX4_execute_110 : decode cX4_execute 110 = .ok (.aload_n 0, 1) := by decide +kernel
theorem dX4_execute_111 : decode cX4_execute 111 = .ok (.getfield 32, 3) := by decide +kernel
theorem dX4_execute_114 : decode cX4_execute 114 = .ok (.getfield 316, 3) := by decide +kernel
theorem dX4_execute_117 : decode cX4_execute 117 = .ok (.iload_n 3, 1) := by decide +kernel
theorem dX4_execute_118 : decode cX4_execute 118 = .ok (.iload 4, 2) := by decide +kernel
theorem dX4_execute_120 : decode cX4_execute 120 = .ok (.iload 5, 2) := by decide +kernel
theorem dX4_execute_122 : decode cX4_execute 122 = .ok (.invokevirtual 319, 3) := by decide +kernel
theorem dX4_execute_125 : decode cX4_execute 125 = .ok (.istore 6, 2) := by decide +kernel
theorem dX4_execute_127 : decode cX4_execute 127 = .ok (.iload 6, 2) := by decide +kernel
theorem dX4_execute_129 : decode cX4_execute 129 = .ok (.ifCond .eq 20, 3) := by decide +kernel
theorem dX4_execute_132 : decode cX4_execute 132 = .ok (.aload_n 0, 1) := by decide +kernel
theorem dX4_execute_133 : decode cX4_execute 133 = .ok (.getfield 32, 3) := by decide +kernel
theorem dX4_execute_136 : decode cX4_execute 136 = .ok (.getfield 290, 3) := by decide +kernel
theorem dX4_execute_139 : decode cX4_execute 139 = .ok (.invokevirtual 268, 3) := by decide +kernel
theorem dX4_execute_142 : decode cX4_execute 142 = .ok (.aload_n 0, 1) := by decide +kernel
theorem dX4_execute_143 : decode cX4_execute 143 = .ok (.iload 6, 2) := by decide +kernel
theorem dX4_execute_145 : decode cX4_execute 145 = .ok (.iload_n 2, 1) := by decide +kernel
theorem dX4_execute_146 : decode cX4_execute 146 = .ok (.invokevirtual 323, 3) := by decide +kernel
theorem dX4_execute_149 : decode cX4_execute 149 = .ok (.aload_n 0, 1) := by decide +kernel
theorem dX4_execute_150 : decode cX4_execute 150 = .ok (.getfield 16, 3) := by decide +kernel
theorem dX4_execute_153 : decode cX4_execute 153 = .ok (.aload_n 0, 1) := by decide +kernel
theorem dX4_execute_154 : decode cX4_execute 154 = .ok (.getfield 32, 3) := by decide +kernel
theorem dX4_execute_157 : decode cX4_execute 157 = .ok (.getfield 316, 3) := by decide +kernel
theorem dX4_execute_160 : decode cX4_execute 160 = .ok (.iload_n 3, 1) := by decide +kernel
theorem dX4_execute_161 : decode cX4_execute 161 = .ok (.iload 4, 2) := by decide +kernel
theorem dX4_execute_163 : decode cX4_execute 163 = .ok (.iload 5, 2) := by decide +kernel
theorem dX4_execute_165 : decode cX4_execute 165 = .ok (.invokevirtual 327, 3) := by decide +kernel
theorem dX4_execute_168 : decode cX4_execute 168 = .ok (.pop, 1) := by decide +kernel
theorem dX4_execute_169 : decode cX4_execute 169 = .ok (.iinc 2 1, 3) := by decide +kernel
theorem dX4_execute_172 : decode cX4_execute 172 = .ok (.goto (-108), 3) := by decide +kernel
theorem dX4_execute_175 : decode cX4_execute 175 = .ok (.aload_n 0, 1) := by decide +kernel
theorem dX4_execute_176 : decode cX4_execute 176 = .ok (.getfield 32, 3) := by decide +kernel
theorem dX4_execute_179 : decode cX4_execute 179 = .ok (.getfield 290, 3) := by decide +kernel
theorem dX4_execute_182 : decode cX4_execute 182 = .ok (.invokevirtual 268, 3) := by decide +kernel
theorem dX4_execute_185 : decode cX4_execute 185 = .ok (.aload_n 0, 1) := by decide +kernel
theorem dX4_execute_186 : decode cX4_execute 186 = .ok (.getfield 25, 3) := by decide +kernel
theorem dX4_execute_189 : decode cX4_execute 189 = .ok (.aload_n 0, 1) := by decide +kernel
theorem dX4_execute_190 : decode cX4_execute 190 = .ok (.getfield 10, 3) := by decide +kernel
theorem dX4_execute_193 : decode cX4_execute 193 = .ok (.invokevirtual 330, 3) := by decide +kernel
theorem dX4_execute_196 : decode cX4_execute 196 = .ok (.aload_n 0, 1) := by decide +kernel
theorem dX4_execute_197 : decode cX4_execute 197 = .ok (.getfield 10, 3) := by decide +kernel
theorem dX4_execute_200 : decode cX4_execute 200 = .ok (.aload_n 0, 1) := by decide +kernel
theorem dX4_execute_201 : decode cX4_execute 201 = .ok (.getfield 16, 3) := by decide +kernel
theorem dX4_execute_204 : decode cX4_execute 204 = .ok (.invokevirtual 233, 3) := by decide +kernel
theorem dX4_execute_207 : decode cX4_execute 207 = .ok (.iload_n 1, 1) := by decide +kernel
theorem dX4_execute_208 : decode cX4_execute 208 = .ok (.ireturn, 1) := by decide +kernel
theorem dX4_syntaxErrorOffset_0 : decode cX4_syntaxErrorOffset 0 = .ok (.aload_n 0, 1) := by decide +kernel
theorem dX4_syntaxErrorOffset_1 : decode cX4_syntaxErrorOffset 1 = .ok (.getfield 43, 3) := by decide +kernel
theorem dX4_syntaxErrorOffset_4 : decode cX4_syntaxErrorOffset 4 = .ok (.ifCond .ge 14, 3) := by decide +kernel
theorem dX4_syntaxErrorOffset_7 : decode cX4_syntaxErrorOffset 7 = .ok (.new 89, 3) := by decide +kernel
theorem dX4_syntaxErrorOffset_10 : decode cX4_syntaxErrorOffset 10 = .ok (.dup, 1) := by decide +kernel
theorem dX4_syntaxErrorOffset_11 : decode cX4_syntaxErrorOffset 11 = .ok (.ldc_w 333, 3) := by decide +kernel
theorem dX4_syntaxErrorOffset_14 : decode cX4_syntaxErrorOffset 14 = .ok (.invokespecial 93, 3) := by decide +kernel
theorem dX4_syntaxErrorOffset_17 : decode cX4_syntaxErrorOffset 17 = .ok (.athrow, 1) := by decide +kernel
theorem dX4_syntaxErrorOffset_18 : decode cX4_syntaxErrorOffset 18 = .ok (.aload_n 0, 1) := by decide +kernel
theorem dX4_syntaxErrorOffset_19 : decode cX4_syntaxErrorOffset 19 = .ok (.getfield 43, 3) := by decide +kernel
theorem dX4_syntaxErrorOffset_22 : decode cX4_syntaxErrorOffset 22 = .ok (.ireturn, 1) := by decide +kernel
theorem dX4_rejectionReason_0 : decode cX4_rejectionReason 0 = .ok (.aload_n 0, 1) := by decide +kernel
theorem dX4_rejectionReason_1 : decode cX4_rejectionReason 1 = .ok (.invokevirtual 335, 3) := by decide +kernel
theorem dX4_rejectionReason_4 : decode cX4_rejectionReason 4 = .ok (.aload_n 0, 1) := by decide +kernel
theorem dX4_rejectionReason_5 : decode cX4_rejectionReason 5 = .ok (.getfield 338, 3) := by decide +kernel
theorem dX4_rejectionReason_8 : decode cX4_rejectionReason 8 = .ok (.ireturn, 1) := by decide +kernel
theorem dX4_rejectionDetail_0 : decode cX4_rejectionDetail 0 = .ok (.aload_n 0, 1) := by decide +kernel
theorem dX4_rejectionDetail_1 : decode cX4_rejectionDetail 1 = .ok (.invokevirtual 335, 3) := by decide +kernel
theorem dX4_rejectionDetail_4 : decode cX4_rejectionDetail 4 = .ok (.aload_n 0, 1) := by decide +kernel
theorem dX4_rejectionDetail_5 : decode cX4_rejectionDetail 5 = .ok (.getfield 341, 3) := by decide +kernel
theorem dX4_rejectionDetail_8 : decode cX4_rejectionDetail 8 = .ok (.ireturn, 1) := by decide +kernel
theorem dX4_causeReason_0 : decode cX4_causeReason 0 = .ok (.aload_n 0, 1) := by decide +kernel
theorem dX4_causeReason_1 : decode cX4_causeReason 1 = .ok (.getfield 338, 3) := by decide +kernel
theorem dX4_causeReason_4 : decode cX4_causeReason 4 = .ok (.bipush 10, 2) := by decide +kernel
theorem dX4_causeReason_6 : decode cX4_causeReason 6 = .ok (.if_icmp .eq 14, 3) := by decide +kernel
theorem dX4_causeReason_9 : decode cX4_causeReason 9 = .ok (.new 89, 3) := by decide +kernel
theorem dX4_causeReason_12 : decode cX4_causeReason 12 = .ok (.dup, 1) := by decide +kernel
theorem dX4_causeReason_13 : decode cX4_causeReason 13 = .ok (.ldc_w 344, 3) := by decide +kernel
theorem dX4_causeReason_16 : decode cX4_causeReason 16 = .ok (.invokespecial 93, 3) := by decide +kernel
theorem dX4_causeReason_19 : decode cX4_causeReason 19 = .ok (.athrow, 1) := by decide +kernel
theorem dX4_causeReason_20 : decode cX4_causeReason 20 = .ok (.aload_n 0, 1) := by decide +kernel
theorem dX4_causeReason_21 : decode cX4_causeReason 21 = .ok (.getfield 346, 3) := by decide +kernel
theorem dX4_causeReason_24 : decode cX4_causeReason 24 = .ok (.ireturn, 1) := by decide +kernel
theorem dX4_undo_0 : decode cX4_undo 0 = .ok (.aload_n 0, 1) := by decide +kernel
theorem dX4_undo_1 : decode cX4_undo 1 = .ok (.getfield 25, 3) := by decide +kernel
theorem dX4_undo_4 : decode cX4_undo 4 = .ok (.getfield 349, 3) := by decide +kernel
theorem dX4_undo_7 : decode cX4_undo 7 = .ok (.ifCond .gt 14, 3) := by decide +kernel
theorem dX4_undo_10 : decode cX4_undo 10 = .ok (.new 293, 3) := by decide +kernel
theorem dX4_undo_13 : decode cX4_undo 13 = .ok (.dup, 1) := by decide +kernel
theorem dX4_undo_14 : decode cX4_undo 14 = .ok (.ldc_w 352, 3) := by decide +kernel
theorem dX4_undo_17 : decode cX4_undo 17 = .ok (.invokespecial 297, 3) := by decide +kernel
theorem dX4_undo_20 : decode cX4_undo 20 = .ok (.athrow, 1) := by decide +kernel
theorem dX4_undo_21 : decode cX4_undo 21 = .ok (.aload_n 0, 1) := by decide +kernel
theorem dX4_undo_22 : decode cX4_undo 22 = .ok (.getfield 25, 3) := by decide +kernel
theorem dX4_undo_25 : decode cX4_undo 25 = .ok (.aload_n 0, 1) := by decide +kernel
theorem dX4_undo_26 : decode cX4_undo 26 = .ok (.getfield 10, 3) := by decide +kernel
theorem dX4_undo_29 : decode cX4_undo 29 = .ok (.invokevirtual 354, 3) := by decide +kernel
theorem dX4_undo_32 : decode cX4_undo 32 = .ok (.aload_n 0, 1) := by decide +kernel
theorem dX4_undo_33 : decode cX4_undo 33 = .ok (.getfield 25, 3) := by decide +kernel
theorem dX4_undo_36 : decode cX4_undo 36 = .ok (.getfield 349, 3) := by decide +kernel
theorem dX4_undo_39 : decode cX4_undo 39 = .ok (.ireturn, 1) := by decide +kernel
theorem dX4_saveSnapshot_0 : decode cX4_saveSnapshot 0 = .ok (.aload_n 0, 1) := by decide +kernel
theorem dX4_saveSnapshot_1 : decode cX4_saveSnapshot 1 = .ok (.getfield 19, 3) := by decide +kernel
theorem dX4_saveSnapshot_4 : decode cX4_saveSnapshot 4 = .ok (.aload_n 0, 1) := by decide +kernel
theorem dX4_saveSnapshot_5 : decode cX4_saveSnapshot 5 = .ok (.getfield 10, 3) := by decide +kernel
theorem dX4_saveSnapshot_8 : decode cX4_saveSnapshot 8 = .ok (.invokevirtual 233, 3) := by decide +kernel
theorem dX4_saveSnapshot_11 : decode cX4_saveSnapshot 11 = .ok (.aload_n 0, 1) := by decide +kernel
theorem dX4_saveSnapshot_12 : decode cX4_saveSnapshot 12 = .ok (.iconst 1, 1) := by decide +kernel
theorem dX4_saveSnapshot_13 : decode cX4_saveSnapshot 13 = .ok (.putfield 357, 3) := by decide +kernel
theorem dX4_saveSnapshot_16 : decode cX4_saveSnapshot 16 = .ok (.aload_n 0, 1) := by decide +kernel
theorem dX4_saveSnapshot_17 : decode cX4_saveSnapshot 17 = .ok (.getfield 10, 3) := by decide +kernel
theorem dX4_saveSnapshot_20 : decode cX4_saveSnapshot 20 = .ok (.getfield 72, 3) := by decide +kernel
theorem dX4_saveSnapshot_23 : decode cX4_saveSnapshot 23 = .ok (.ireturn, 1) := by decide +kernel
theorem dX4_restoreSnapshot_0 : decode cX4_restoreSnapshot 0 = .ok (.aload_n 0, 1) := by decide +kernel
theorem dX4_restoreSnapshot_1 : decode cX4_restoreSnapshot 1 = .ok (.getfield 357, 3) := by decide +kernel
theorem dX4_restoreSnapshot_4 : decode cX4_restoreSnapshot 4 = .ok (.ifCond .ne 14, 3) := by decide +kernel
theorem dX4_restoreSnapshot_7 : decode cX4_restoreSnapshot 7 = .ok (.new 293, 3) := by decide +kernel
theorem dX4_restoreSnapshot_10 : decode cX4_restoreSnapshot 10 = .ok (.dup, 1) := by decide +kernel
theorem dX4_restoreSnapshot_11 : decode cX4_restoreSnapshot 11 = .ok (.ldc_w 361, 3) := by decide +kernel
theorem dX4_restoreSnapshot_14 : decode cX4_restoreSnapshot 14 = .ok (.invokespecial 297, 3) := by decide +kernel
theorem dX4_restoreSnapshot_17 : decode cX4_restoreSnapshot 17 = .ok (.athrow, 1) := by decide +kernel
theorem dX4_restoreSnapshot_18 : decode cX4_restoreSnapshot 18 = .ok (.aload_n 0, 1) := by decide +kernel
theorem dX4_restoreSnapshot_19 : decode cX4_restoreSnapshot 19 = .ok (.getfield 10, 3) := by decide +kernel
theorem dX4_restoreSnapshot_22 : decode cX4_restoreSnapshot 22 = .ok (.aload_n 0, 1) := by decide +kernel
theorem dX4_restoreSnapshot_23 : decode cX4_restoreSnapshot 23 = .ok (.getfield 19, 3) := by decide +kernel
theorem dX4_restoreSnapshot_26 : decode cX4_restoreSnapshot 26 = .ok (.invokevirtual 233, 3) := by decide +kernel
theorem dX4_restoreSnapshot_29 : decode cX4_restoreSnapshot 29 = .ok (.aload_n 0, 1) := by decide +kernel
theorem dX4_restoreSnapshot_30 : decode cX4_restoreSnapshot 30 = .ok (.getfield 25, 3) := by decide +kernel
theorem dX4_restoreSnapshot_33 : decode cX4_restoreSnapshot 33 = .ok (.invokevirtual 363, 3) := by decide +kernel
theorem dX4_restoreSnapshot_36 : decode cX4_restoreSnapshot 36 = .ok (.aload_n 0, 1) := by decide +kernel
theorem dX4_restoreSnapshot_37 : decode cX4_restoreSnapshot 37 = .ok (.getfield 10, 3) := by decide +kernel
theorem dX4_restoreSnapshot_40 : decode cX4_restoreSnapshot 40 = .ok (.getfield 72, 3) := by decide +kernel
theorem dX4_restoreSnapshot_43 : decode cX4_restoreSnapshot 43 = .ok (.ireturn, 1) := by decide +kernel
theorem dX4_admit_0 : decode cX4_admit 0 = .ok (.aload_n 0, 1) := by decide +kernel
theorem dX4_admit_1 : decode cX4_admit 1 = .ok (.getfield 10, 3) := by decide +kernel
theorem dX4_admit_4 : decode cX4_admit 4 = .ok (.iload_n 1, 1) := by decide +kernel
theorem dX4_admit_5 : decode cX4_admit 5 = .ok (.iload_n 2, 1) := by decide +kernel
theorem dX4_admit_6 : decode cX4_admit 6 = .ok (.iload_n 3, 1) := by decide +kernel
theorem dX4_admit_7 : decode cX4_admit 7 = .ok (.iload 4, 2) := by decide +kernel
theorem dX4_admit_9 : decode cX4_admit 9 = .ok (.invokevirtual 319, 3) := by decide +kernel
theorem dX4_admit_12 : decode cX4_admit 12 = .ok (.istore 5, 2) := by decide +kernel
theorem dX4_admit_14 : decode cX4_admit 14 = .ok (.iload 5, 2) := by decide +kernel
theorem dX4_admit_16 : decode cX4_admit 16 = .ok (.iconst (-1), 1) := by decide +kernel
theorem dX4_admit_17 : decode cX4_admit 17 = .ok (.if_icmp .ne 14, 3) := by decide +kernel
theorem dX4_admit_20 : decode cX4_admit 20 = .ok (.new 79, 3) := by decide +kernel
theorem dX4_admit_23 : decode cX4_admit 23 = .ok (.dup, 1) := by decide +kernel
theorem dX4_admit_24 : decode cX4_admit 24 = .ok (.ldc_w 366, 3) := by decide +kernel
theorem dX4_admit_27 : decode cX4_admit 27 = .ok (.invokespecial 83, 3) := by decide +kernel
theorem dX4_admit_30 : decode cX4_admit 30 = .ok (.athrow, 1) := by decide +kernel
theorem dX4_admit_31 : decode cX4_admit 31 = .ok (.iload 5, 2) := by decide +kernel
theorem dX4_admit_33 : decode cX4_admit 33 = .ok (.bipush (-2), 2) := by decide +kernel
theorem dX4_admit_35 : decode cX4_admit 35 = .ok (.if_icmp .ne 14, 3) := by decide +kernel
theorem dX4_admit_38 : decode cX4_admit 38 = .ok (.new 167, 3) := by decide +kernel
theorem dX4_admit_41 : decode cX4_admit 41 = .ok (.dup, 1) := by decide +kernel
theorem dX4_admit_42 : decode cX4_admit 42 = .ok (.ldc_w 368, 3) := by decide +kernel
theorem dX4_admit_45 : decode cX4_admit 45 = .ok (.invokespecial 171, 3) := by decide +kernel
theorem dX4_admit_48 : decode cX4_admit 48 = .ok (.athrow, 1) := by decide +kernel
theorem dX4_admit_49 : decode cX4_admit 49 = .ok (.iload 5, 2) := by decide +kernel
theorem dX4_admit_51 : decode cX4_admit 51 = .ok (.ifCond .eq 32, 3) := by decide +kernel
theorem dX4_admit_54 : decode cX4_admit 54 = .ok (.aload_n 0, 1) := by decide +kernel
theorem dX4_admit_55 : decode cX4_admit 55 = .ok (.iload 5, 2) := by decide +kernel
theorem dX4_admit_57 : decode cX4_admit 57 = .ok (.aload_n 0, 1) := by decide +kernel
theorem dX4_admit_58 : decode cX4_admit 58 = .ok (.getfield 10, 3) := by decide +kernel
theorem dX4_admit_61 : decode cX4_admit 61 = .ok (.iload 5, 2) := by decide +kernel
theorem dX4_admit_63 : decode cX4_admit 63 = .ok (.iload_n 2, 1) := by decide +kernel
theorem dX4_admit_64 : decode cX4_admit 64 = .ok (.iload_n 3, 1) := by decide +kernel
theorem dX4_admit_65 : decode cX4_admit 65 = .ok (.invokevirtual 370, 3) := by decide +kernel
theorem dX4_admit_68 : decode cX4_admit 68 = .ok (.iconst 0, 1) := by decide +kernel
theorem dX4_admit_69 : decode cX4_admit 69 = .ok (.invokevirtual 373, 3) := by decide +kernel
theorem dX4_admit_72 : decode cX4_admit 72 = .ok (.new 377, 3) := by decide +kernel
theorem dX4_admit_75 : decode cX4_admit 75 = .ok (.dup, 1) := by decide +kernel
theorem dX4_admit_76 : decode cX4_admit 76 = .ok (.ldc_w 379, 3) := by decide +kernel
theorem dX4_admit_79 : decode cX4_admit 79 = .ok (.invokespecial 381, 3) := by decide +kernel
theorem dX4_admit_82 : decode cX4_admit 82 = .ok (.athrow, 1) := by decide +kernel
theorem dX4_admit_83 : decode cX4_admit 83 = .ok (.aload_n 0, 1) := by decide +kernel
theorem dX4_admit_84 : decode cX4_admit 84 = .ok (.getfield 25, 3) := by decide +kernel
theorem dX4_admit_87 : decode cX4_admit 87 = .ok (.aload_n 0, 1) := by decide +kernel
theorem dX4_admit_88 : decode cX4_admit 88 = .ok (.getfield 10, 3) := by decide +kernel
theorem dX4_admit_91 : decode cX4_admit 91 = .ok (.invokevirtual 330, 3) := by decide +kernel
theorem dX4_admit_94 : decode cX4_admit 94 = .ok (.return_, 1) := by decide +kernel
theorem dX4_refuseCommand_0 : decode cX4_refuseCommand 0 = .ok (.iload_n 1, 1) := by decide +kernel
theorem dX4_refuseCommand_1 : decode cX4_refuseCommand 1 = .ok (.iconst (-1), 1) := by decide +kernel
theorem dX4_refuseCommand_2 : decode cX4_refuseCommand 2 = .ok (.if_icmp .eq 9, 3) := by decide +kernel
theorem dX4_refuseCommand_5 : decode cX4_refuseCommand 5 = .ok (.iload_n 1, 1) := by decide +kernel
theorem dX4_refuseCommand_6 : decode cX4_refuseCommand 6 = .ok (.bipush (-2), 2) := by decide +kernel
theorem dX4_refuseCommand_8 : decode cX4_refuseCommand 8 = .ok (.if_icmp .ne 14, 3) := by decide +kernel
theorem dX4_refuseCommand_11 : decode cX4_refuseCommand 11 = .ok (.new 293, 3) := by decide +kernel
theorem dX4_refuseCommand_14 : decode cX4_refuseCommand 14 = .ok (.dup, 1) := by decide +kernel
theorem dX4_refuseCommand_15 : decode cX4_refuseCommand 15 = .ok (.ldc_w 382, 3) := by decide +kernel
theorem dX4_refuseCommand_18 : decode cX4_refuseCommand 18 = .ok (.invokespecial 297, 3) := by decide +kernel
theorem dX4_refuseCommand_21 : decode cX4_refuseCommand 21 = .ok (.athrow, 1) := by decide +kernel
theorem dX4_refuseCommand_22 : decode cX4_refuseCommand 22 = .ok (.aload_n 0, 1) := by decide +kernel
theorem dX4_refuseCommand_23 : decode cX4_refuseCommand 23 = .ok (.bipush 10, 2) := by decide +kernel
theorem dX4_refuseCommand_25 : decode cX4_refuseCommand 25 = .ok (.iload_n 2, 1) := by decide +kernel
theorem dX4_refuseCommand_26 : decode cX4_refuseCommand 26 = .ok (.iload_n 1, 1) := by decide +kernel
theorem dX4_refuseCommand_27 : decode cX4_refuseCommand 27 = .ok (.invokevirtual 373, 3) := by decide +kernel
theorem dX4_refuseCommand_30 : decode cX4_refuseCommand 30 = .ok (.new 377, 3) := by decide +kernel
theorem dX4_refuseCommand_33 : decode cX4_refuseCommand 33 = .ok (.dup, 1) := by decide +kernel
theorem dX4_refuseCommand_34 : decode cX4_refuseCommand 34 = .ok (.ldc_w 384, 3) := by decide +kernel
theorem dX4_refuseCommand_37 : decode cX4_refuseCommand 37 = .ok (.invokespecial 381, 3) := by decide +kernel
theorem dX4_refuseCommand_40 : decode cX4_refuseCommand 40 = .ok (.athrow, 1) := by decide +kernel
theorem dX4_reject_0 : decode cX4_reject 0 = .ok (.aload_n 0, 1) := by decide +kernel
theorem dX4_reject_1 : decode cX4_reject 1 = .ok (.iload_n 1, 1) := by decide +kernel
theorem dX4_reject_2 : decode cX4_reject 2 = .ok (.putfield 338, 3) := by decide +kernel
theorem dX4_reject_5 : decode cX4_reject 5 = .ok (.aload_n 0, 1) := by decide +kernel
theorem dX4_reject_6 : decode cX4_reject 6 = .ok (.iload_n 2, 1) := by decide +kernel
theorem dX4_reject_7 : decode cX4_reject 7 = .ok (.putfield 341, 3) := by decide +kernel
theorem dX4_reject_10 : decode cX4_reject 10 = .ok (.aload_n 0, 1) := by decide +kernel
theorem dX4_reject_11 : decode cX4_reject 11 = .ok (.iload_n 3, 1) := by decide +kernel
theorem dX4_reject_12 : decode cX4_reject 12 = .ok (.putfield 346, 3) := by decide +kernel
theorem dX4_reject_15 : decode cX4_reject 15 = .ok (.return_, 1) := by decide +kernel
theorem dX4_requireTurbine_0 : decode cX4_requireTurbine 0 = .ok (.aload_n 0, 1) := by decide +kernel
theorem dX4_requireTurbine_1 : decode cX4_requireTurbine 1 = .ok (.getfield 10, 3) := by decide +kernel
theorem dX4_requireTurbine_4 : decode cX4_requireTurbine 4 = .ok (.iload_n 1, 1) := by decide +kernel
theorem dX4_requireTurbine_5 : decode cX4_requireTurbine 5 = .ok (.invokevirtual 386, 3) := by decide +kernel
theorem dX4_requireTurbine_8 : decode cX4_requireTurbine 8 = .ok (.ifCond .ne 14, 3) := by decide +kernel
theorem dX4_requireTurbine_11 : decode cX4_requireTurbine 11 = .ok (.new 79, 3) := by decide +kernel
theorem dX4_requireTurbine_14 : decode cX4_requireTurbine 14 = .ok (.dup, 1) := by decide +kernel
theorem dX4_requireTurbine_15 : decode cX4_requireTurbine 15 = .ok (.ldc_w 389, 3) := by decide +kernel
theorem dX4_requireTurbine_18 : decode cX4_requireTurbine 18 = .ok (.invokespecial 83, 3) := by decide +kernel
theorem dX4_requireTurbine_21 : decode cX4_requireTurbine 21 = .ok (.athrow, 1) := by decide +kernel
theorem dX4_requireTurbine_22 : decode cX4_requireTurbine 22 = .ok (.return_, 1) := by decide +kernel
theorem dX4_requireHour_0 : decode cX4_requireHour 0 = .ok (.iload_n 1, 1) := by decide +kernel
theorem dX4_requireHour_1 : decode cX4_requireHour 1 = .ok (.invokestatic 391, 3) := by decide +kernel
theorem dX4_requireHour_4 : decode cX4_requireHour 4 = .ok (.ifCond .ne 14, 3) := by decide +kernel
theorem dX4_requireHour_7 : decode cX4_requireHour 7 = .ok (.new 79, 3) := by decide +kernel
theorem dX4_requireHour_10 : decode cX4_requireHour 10 = .ok (.dup, 1) := by decide +kernel
theorem dX4_requireHour_11 : decode cX4_requireHour 11 = .ok (.ldc_w 394, 3) := by decide +kernel
theorem dX4_requireHour_14 : decode cX4_requireHour 14 = .ok (.invokespecial 83, 3) := by decide +kernel
theorem dX4_requireHour_17 : decode cX4_requireHour 17 = .ok (.athrow, 1) := by decide +kernel
theorem dX4_requireHour_18 : decode cX4_requireHour 18 = .ok (.return_, 1) := by decide +kernel
theorem dX4_requireBid_0 : decode cX4_requireBid 0 = .ok (.aload_n 0, 1) := by decide +kernel
theorem dX4_requireBid_1 : decode cX4_requireBid 1 = .ok (.iload_n 1, 1) := by decide +kernel
theorem dX4_requireBid_2 : decode cX4_requireBid 2 = .ok (.invokevirtual 201, 3) := by decide +kernel
theorem dX4_requireBid_5 : decode cX4_requireBid 5 = .ok (.aload_n 0, 1) := by decide +kernel
theorem dX4_requireBid_6 : decode cX4_requireBid 6 = .ok (.getfield 10, 3) := by decide +kernel
theorem dX4_requireBid_9 : decode cX4_requireBid 9 = .ok (.iload_n 1, 1) := by decide +kernel
theorem dX4_requireBid_10 : decode cX4_requireBid 10 = .ok (.invokevirtual 204, 3) := by decide +kernel
theorem dX4_requireBid_13 : decode cX4_requireBid 13 = .ok (.ifCond .ne 14, 3) := by decide +kernel
theorem dX4_requireBid_16 : decode cX4_requireBid 16 = .ok (.new 89, 3) := by decide +kernel
theorem dX4_requireBid_19 : decode cX4_requireBid 19 = .ok (.dup, 1) := by decide +kernel
theorem dX4_requireBid_20 : decode cX4_requireBid 20 = .ok (.ldc_w 396, 3) := by decide +kernel
theorem dX4_requireBid_23 : decode cX4_requireBid 23 = .ok (.invokespecial 93, 3) := by decide +kernel
theorem dX4_requireBid_26 : decode cX4_requireBid 26 = .ok (.athrow, 1) := by decide +kernel
theorem dX4_requireBid_27 : decode cX4_requireBid 27 = .ok (.return_, 1) := by decide +kernel
theorem dX4_requireRejection_0 : decode cX4_requireRejection 0 = .ok (.aload_n 0, 1) := by decide +kernel
theorem dX4_requireRejection_1 : decode cX4_requireRejection 1 = .ok (.getfield 338, 3) := by decide +kernel
theorem dX4_requireRejection_4 : decode cX4_requireRejection 4 = .ok (.ifCond .ne 14, 3) := by decide +kernel
theorem dX4_requireRejection_7 : decode cX4_requireRejection 7 = .ok (.new 89, 3) := by decide +kernel
theorem dX4_requireRejection_10 : decode cX4_requireRejection 10 = .ok (.dup, 1) := by decide +kernel
theorem dX4_requireRejection_11 : decode cX4_requireRejection 11 = .ok (.ldc_w 398, 3) := by decide +kernel
theorem dX4_requireRejection_14 : decode cX4_requireRejection 14 = .ok (.invokespecial 93, 3) := by decide +kernel
theorem dX4_requireRejection_17 : decode cX4_requireRejection 17 = .ok (.athrow, 1) := by decide +kernel
theorem dX4_requireRejection_18 : decode cX4_requireRejection 18 = .ok (.return_, 1) := by decide +kernel
theorem dX4_writeNumber_0 : decode cX4_writeNumber 0 = .ok (.aload_n 0, 1) := by decide +kernel
theorem dX4_writeNumber_1 : decode cX4_writeNumber 1 = .ok (.getfield 39, 3) := by decide +kernel
theorem dX4_writeNumber_4 : decode cX4_writeNumber 4 = .ok (.iload_n 1, 1) := by decide +kernel
theorem dX4_writeNumber_5 : decode cX4_writeNumber 5 = .ok (.invokevirtual 278, 3) := by decide +kernel
theorem dX4_writeNumber_8 : decode cX4_writeNumber 8 = .ok (.aload_n 0, 1) := by decide +kernel
theorem dX4_writeNumber_9 : decode cX4_writeNumber 9 = .ok (.getfield 39, 3) := by decide +kernel
theorem dX4_writeNumber_12 : decode cX4_writeNumber 12 = .ok (.iload_n 2, 1) := by decide +kernel
theorem dX4_writeNumber_13 : decode cX4_writeNumber 13 = .ok (.invokevirtual 271, 3) := by decide +kernel
theorem dX4_writeNumber_16 : decode cX4_writeNumber 16 = .ok (.return_, 1) := by decide +kernel
theorem dX4_isWithin_0 : decode cX4_isWithin 0 = .ok (.iload_n 0, 1) := by decide +kernel
theorem dX4_isWithin_1 : decode cX4_isWithin 1 = .ok (.iload_n 1, 1) := by decide +kernel
theorem dX4_isWithin_2 : decode cX4_isWithin 2 = .ok (.if_icmp .lt 12, 3) := by decide +kernel
theorem dX4_isWithin_5 : decode cX4_isWithin 5 = .ok (.iload_n 0, 1) := by decide +kernel
theorem dX4_isWithin_6 : decode cX4_isWithin 6 = .ok (.iload_n 2, 1) := by decide +kernel
theorem dX4_isWithin_7 : decode cX4_isWithin 7 = .ok (.if_icmp .gt 7, 3) := by decide +kernel
theorem dX4_isWithin_10 : decode cX4_isWithin 10 = .ok (.iconst 1, 1) := by decide +kernel
theorem dX4_isWithin_11 : decode cX4_isWithin 11 = .ok (.goto 4, 3) := by decide +kernel
theorem dX4_isWithin_14 : decode cX4_isWithin 14 = .ok (.iconst 0, 1) := by decide +kernel
theorem dX4_isWithin_15 : decode cX4_isWithin 15 = .ok (.ireturn, 1) := by decide +kernel
theorem dX4_isCell_0 : decode cX4_isCell 0 = .ok (.iload_n 0, 1) := by decide +kernel
theorem dX4_isCell_1 : decode cX4_isCell 1 = .ok (.iconst 0, 1) := by decide +kernel
theorem dX4_isCell_2 : decode cX4_isCell 2 = .ok (.iconst 4, 1) := by decide +kernel
theorem dX4_isCell_3 : decode cX4_isCell 3 = .ok (.invokestatic 227, 3) := by decide +kernel
theorem dX4_isCell_6 : decode cX4_isCell 6 = .ok (.ifCond .eq 16, 3) := by decide +kernel
theorem dX4_isCell_9 : decode cX4_isCell 9 = .ok (.iload_n 1, 1) := by decide +kernel
theorem dX4_isCell_10 : decode cX4_isCell 10 = .ok (.iconst 0, 1) := by decide +kernel
theorem dX4_isCell_11 : decode cX4_isCell 11 = .ok (.iconst 5, 1) := by decide +kernel
theorem dX4_isCell_12 : decode cX4_isCell 12 = .ok (.invokestatic 227, 3) := by decide +kernel
theorem dX4_isCell_15 : decode cX4_isCell 15 = .ok (.ifCond .eq 7, 3) := by decide +kernel
theorem dX4_isCell_18 : decode cX4_isCell 18 = .ok (.iconst 1, 1) := by decide +kernel
theorem dX4_isCell_19 : decode cX4_isCell 19 = .ok (.goto 4, 3) := by decide +kernel
theorem dX4_isCell_22 : decode cX4_isCell 22 = .ok (.iconst 0, 1) := by decide +kernel
theorem dX4_isCell_23 : decode cX4_isCell 23 = .ok (.ireturn, 1) := by decide +kernel
theorem dX4_isHourOfDay_0 : decode cX4_isHourOfDay 0 = .ok (.iload_n 0, 1) := by decide +kernel
theorem dX4_isHourOfDay_1 : decode cX4_isHourOfDay 1 = .ok (.iconst 0, 1) := by decide +kernel
theorem dX4_isHourOfDay_2 : decode cX4_isHourOfDay 2 = .ok (.bipush 23, 2) := by decide +kernel
theorem dX4_isHourOfDay_4 : decode cX4_isHourOfDay 4 = .ok (.invokestatic 227, 3) := by decide +kernel
theorem dX4_isHourOfDay_7 : decode cX4_isHourOfDay 7 = .ok (.ireturn, 1) := by decide +kernel
theorem dX4_isDirection_0 : decode cX4_isDirection 0 = .ok (.iload_n 0, 1) := by decide +kernel
theorem dX4_isDirection_1 : decode cX4_isDirection 1 = .ok (.bipush 78, 2) := by decide +kernel
theorem dX4_isDirection_3 : decode cX4_isDirection 3 = .ok (.if_icmp .eq 21, 3) := by decide +kernel
theorem dX4_isDirection_6 : decode cX4_isDirection 6 = .ok (.iload_n 0, 1) := by decide +kernel
theorem dX4_isDirection_7 : decode cX4_isDirection 7 = .ok (.bipush 69, 2) := by decide +kernel
theorem dX4_isDirection_9 : decode cX4_isDirection 9 = .ok (.if_icmp .eq 15, 3) := by decide +kernel
theorem dX4_isDirection_12 : decode cX4_isDirection 12 = .ok (.iload_n 0, 1) := by decide +kernel
theorem dX4_isDirection_13 : decode cX4_isDirection 13 = .ok (.bipush 83, 2) := by decide +kernel
theorem dX4_isDirection_15 : decode cX4_isDirection 15 = .ok (.if_icmp .eq 9, 3) := by decide +kernel
theorem dX4_isDirection_18 : decode cX4_isDirection 18 = .ok (.iload_n 0, 1) := by decide +kernel
theorem dX4_isDirection_19 : decode cX4_isDirection 19 = .ok (.bipush 87, 2) := by decide +kernel
theorem dX4_isDirection_21 : decode cX4_isDirection 21 = .ok (.if_icmp .ne 7, 3) := by decide +kernel
theorem dX4_isDirection_24 : decode cX4_isDirection 24 = .ok (.iconst 1, 1) := by decide +kernel
theorem dX4_isDirection_25 : decode cX4_isDirection 25 = .ok (.goto 4, 3) := by decide +kernel
theorem dX4_isDirection_28 : decode cX4_isDirection 28 = .ok (.iconst 0, 1) := by decide +kernel
theorem dX4_isDirection_29 : decode cX4_isDirection 29 = .ok (.ireturn, 1) := by decide +kernel
theorem dX4_isWind_0 : decode cX4_isWind 0 = .ok (.iload_n 0, 1) := by decide +kernel
theorem dX4_isWind_1 : decode cX4_isWind 1 = .ok (.invokestatic 400, 3) := by decide +kernel
theorem dX4_isWind_4 : decode cX4_isWind 4 = .ok (.ifCond .eq 17, 3) := by decide +kernel
theorem dX4_isWind_7 : decode cX4_isWind 7 = .ok (.iload_n 1, 1) := by decide +kernel
theorem dX4_isWind_8 : decode cX4_isWind 8 = .ok (.iconst 0, 1) := by decide +kernel
theorem dX4_isWind_9 : decode cX4_isWind 9 = .ok (.bipush 30, 2) := by decide +kernel
theorem dX4_isWind_11 : decode cX4_isWind 11 = .ok (.invokestatic 227, 3) := by decide +kernel
theorem dX4_isWind_14 : decode cX4_isWind 14 = .ok (.ifCond .eq 7, 3) := by decide +kernel
theorem dX4_isWind_17 : decode cX4_isWind 17 = .ok (.iconst 1, 1) := by decide +kernel
theorem dX4_isWind_18 : decode cX4_isWind 18 = .ok (.goto 4, 3) := by decide +kernel
theorem dX4_isWind_21 : decode cX4_isWind 21 = .ok (.iconst 0, 1) := by decide +kernel
theorem dX4_isWind_22 : decode cX4_isWind 22 = .ok (.ireturn, 1) := by decide +kernel
theorem dX4_factorOf_0 : decode cX4_factorOf 0 = .ok (.iload_n 0, 1) := by decide +kernel
theorem dX4_factorOf_1 : decode cX4_factorOf 1 = .ok (.iconst 3, 1) := by decide +kernel
theorem dX4_factorOf_2 : decode cX4_factorOf 2 = .ok (.if_icmp .lt 9, 3) := by decide +kernel
theorem dX4_factorOf_5 : decode cX4_factorOf 5 = .ok (.iload_n 0, 1) := by decide +kernel
theorem dX4_factorOf_6 : decode cX4_factorOf 6 = .ok (.bipush 22, 2) := by decide +kernel
theorem dX4_factorOf_8 : decode cX4_factorOf 8 = .ok (.if_icmp .le 5, 3) := by decide +kernel
theorem dX4_factorOf_11 : decode cX4_factorOf 11 = .ok (.iconst 0, 1) := by decide +kernel
theorem dX4_factorOf_12 : decode cX4_factorOf 12 = .ok (.ireturn, 1) := by decide +kernel
theorem dX4_factorOf_13 : decode cX4_factorOf 13 = .ok (.iload_n 0, 1) := by decide +kernel
theorem dX4_factorOf_14 : decode cX4_factorOf 14 = .ok (.iconst 4, 1) := by decide +kernel
theorem dX4_factorOf_15 : decode cX4_factorOf 15 = .ok (.if_icmp .gt 5, 3) := by decide +kernel
theorem dX4_factorOf_18 : decode cX4_factorOf 18 = .ok (.iconst 2, 1) := by decide +kernel
theorem dX4_factorOf_19 : decode cX4_factorOf 19 = .ok (.ireturn, 1) := by decide +kernel
theorem dX4_factorOf_20 : decode cX4_factorOf 20 = .ok (.iload_n 0, 1) := by decide +kernel
theorem dX4_factorOf_21 : decode cX4_factorOf 21 = .ok (.bipush 7, 2) := by decide +kernel
theorem dX4_factorOf_23 : decode cX4_factorOf 23 = .ok (.if_icmp .gt 5, 3) := by decide +kernel
theorem dX4_factorOf_26 : decode cX4_factorOf 26 = .ok (.iconst 5, 1) := by decide +kernel
theorem dX4_factorOf_27 : decode cX4_factorOf 27 = .ok (.ireturn, 1) := by decide +kernel
theorem dX4_factorOf_28 : decode cX4_factorOf 28 = .ok (.iload_n 0, 1) := by decide +kernel
theorem dX4_factorOf_29 : decode cX4_factorOf 29 = .ok (.bipush 11, 2) := by decide +kernel
theorem dX4_factorOf_31 : decode cX4_factorOf 31 = .ok (.if_icmp .gt 8, 3) := by decide +kernel
theorem dX4_factorOf_34 : decode cX4_factorOf 34 = .ok (.bipush 8, 2) := by decide +kernel
theorem dX4_factorOf_36 : decode cX4_factorOf 36 = .ok (.goto 5, 3) := by decide +kernel
theorem dX4_factorOf_39 : decode cX4_factorOf 39 = .ok (.bipush 10, 2) := by decide +kernel
theorem dX4_factorOf_41 : decode cX4_factorOf 41 = .ok (.ireturn, 1) := by decide +kernel
theorem dX4_valueAt_0 : decode cX4_valueAt 0 = .ok (.iload_n 1, 1) := by decide +kernel
theorem dX4_valueAt_1 : decode cX4_valueAt 1 = .ok (.ifCond .lt 15, 3) := by decide +kernel
theorem dX4_valueAt_4 : decode cX4_valueAt 4 = .ok (.iload_n 1, 1) := by decide +kernel
theorem dX4_valueAt_5 : decode cX4_valueAt 5 = .ok (.aload_n 0, 1) := by decide +kernel
theorem dX4_valueAt_6 : decode cX4_valueAt 6 = .ok (.arraylength, 1) := by decide +kernel
theorem dX4_valueAt_7 : decode cX4_valueAt 7 = .ok (.if_icmp .ge 9, 3) := by decide +kernel
theorem dX4_valueAt_10 : decode cX4_valueAt 10 = .ok (.aload_n 0, 1) := by decide +kernel
theorem dX4_valueAt_11 : decode cX4_valueAt 11 = .ok (.iload_n 1, 1) := by decide +kernel
theorem dX4_valueAt_12 : decode cX4_valueAt 12 = .ok (.iaload, 1) := by decide +kernel
theorem dX4_valueAt_13 : decode cX4_valueAt 13 = .ok (.goto 4, 3) := by decide +kernel
theorem dX4_valueAt_16 : decode cX4_valueAt 16 = .ok (.iconst 0, 1) := by decide +kernel
theorem dX4_valueAt_17 : decode cX4_valueAt 17 = .ok (.ireturn, 1) := by decide +kernel
theorem dX4_setValue_0 : decode cX4_setValue 0 = .ok (.iload_n 1, 1) := by decide +kernel
theorem dX4_setValue_1 : decode cX4_setValue 1 = .ok (.ifCond .lt 13, 3) := by decide +kernel
theorem dX4_setValue_4 : decode cX4_setValue 4 = .ok (.iload_n 1, 1) := by decide +kernel
theorem dX4_setValue_5 : decode cX4_setValue 5 = .ok (.aload_n 0, 1) := by decide +kernel
theorem dX4_setValue_6 : decode cX4_setValue 6 = .ok (.arraylength, 1) := by decide +kernel
theorem dX4_setValue_7 : decode cX4_setValue 7 = .ok (.if_icmp .ge 7, 3) := by decide +kernel
theorem dX4_setValue_10 : decode cX4_setValue 10 = .ok (.aload_n 0, 1) := by decide +kernel
theorem dX4_setValue_11 : decode cX4_setValue 11 = .ok (.iload_n 1, 1) := by decide +kernel
theorem dX4_setValue_12 : decode cX4_setValue 12 = .ok (.iload_n 2, 1) := by decide +kernel
theorem dX4_setValue_13 : decode cX4_setValue 13 = .ok (.iastore, 1) := by decide +kernel
theorem dX4_setValue_14 : decode cX4_setValue 14 = .ok (.return_, 1) := by decide +kernel
end
section
theorem zz_last : True := trivial
end
