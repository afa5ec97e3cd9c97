section
-- ===== PART A: goes FIRST, ahead of the names: the tables' words, and 'selects' of the private methods out of them =====
/-- a private method of a class that the tables say can be made, by its rows of tables_1 -/
def lw_okq (q : MethodName × Nat) : Prop := (q.1.cls ≠ "java/lang/invoke/MethodHandle" ∧ q.1.cls ≠ "java/lang/invoke/VarHandle") ∧ Cond.instantiable q.1.cls q.2 ∈ tables_1 ∧ Cond.privateMethod q.1 ∈ tables_1 ∧ Cond.instanceMethod q.1 ∈ tables_1
theorem lw_p0 : lw_okq (⟨"SlackHall$Paths", "join", "(II)V"⟩, 6) := ⟨⟨by decide +kernel, by decide +kernel⟩, List.mem_of_getElem? (i := 229) (by decide +kernel), List.mem_of_getElem? (i := 382) (by decide +kernel), List.mem_of_getElem? (i := 383) (by decide +kernel)⟩
theorem lw_p1 : lw_okq (⟨"SlackHall$Paths", "check", "(I)V"⟩, 6) := ⟨⟨by decide +kernel, by decide +kernel⟩, List.mem_of_getElem? (i := 229) (by decide +kernel), List.mem_of_getElem? (i := 390) (by decide +kernel), List.mem_of_getElem? (i := 391) (by decide +kernel)⟩
theorem lw_p2 : lw_okq (⟨"SlackHall$Delays", "burden", "(IF)V"⟩, 4) := ⟨⟨by decide +kernel, by decide +kernel⟩, List.mem_of_getElem? (i := 256) (by decide +kernel), List.mem_of_getElem? (i := 438) (by decide +kernel), List.mem_of_getElem? (i := 439) (by decide +kernel)⟩
theorem lw_p3 : lw_okq (⟨"SlackHall$Timing", "settle", "(ILSlackHall$Corner;)V"⟩, 9) := ⟨⟨by decide +kernel, by decide +kernel⟩, List.mem_of_getElem? (i := 278) (by decide +kernel), List.mem_of_getElem? (i := 466) (by decide +kernel), List.mem_of_getElem? (i := 467) (by decide +kernel)⟩
theorem lw_p4 : lw_okq (⟨"SlackHall$Timing", "leftForLate", "(IILSlackHall$Corner;)D"⟩, 9) := ⟨⟨by decide +kernel, by decide +kernel⟩, List.mem_of_getElem? (i := 278) (by decide +kernel), List.mem_of_getElem? (i := 474) (by decide +kernel), List.mem_of_getElem? (i := 475) (by decide +kernel)⟩
theorem lw_p5 : lw_okq (⟨"SlackHall$Timing", "leftForEarly", "(IILSlackHall$Corner;)D"⟩, 9) := ⟨⟨by decide +kernel, by decide +kernel⟩, List.mem_of_getElem? (i := 278) (by decide +kernel), List.mem_of_getElem? (i := 494) (by decide +kernel), List.mem_of_getElem? (i := 495) (by decide +kernel)⟩
theorem lw_p6 : lw_okq (⟨"SlackHall$Timing", "lend", "(I)V"⟩, 9) := ⟨⟨by decide +kernel, by decide +kernel⟩, List.mem_of_getElem? (i := 278) (by decide +kernel), List.mem_of_getElem? (i := 502) (by decide +kernel), List.mem_of_getElem? (i := 503) (by decide +kernel)⟩
theorem lw_p7 : lw_okq (⟨"SlackHall$Timing", "depart", "(ILSlackHall$Corner;)V"⟩, 9) := ⟨⟨by decide +kernel, by decide +kernel⟩, List.mem_of_getElem? (i := 278) (by decide +kernel), List.mem_of_getElem? (i := 512) (by decide +kernel), List.mem_of_getElem? (i := 513) (by decide +kernel)⟩
theorem lw_p8 : lw_okq (⟨"SlackHall$Timing", "delayOf", "(IILSlackHall$Corner;)D"⟩, 9) := ⟨⟨by decide +kernel, by decide +kernel⟩, List.mem_of_getElem? (i := 278) (by decide +kernel), List.mem_of_getElem? (i := 516) (by decide +kernel), List.mem_of_getElem? (i := 517) (by decide +kernel)⟩
theorem lw_p9 : lw_okq (⟨"SlackHall$Timing", "pass", "(ILSlackHall$Corner;)V"⟩, 9) := ⟨⟨by decide +kernel, by decide +kernel⟩, List.mem_of_getElem? (i := 278) (by decide +kernel), List.mem_of_getElem? (i := 526) (by decide +kernel), List.mem_of_getElem? (i := 527) (by decide +kernel)⟩
theorem lw_p10 : lw_okq (⟨"SlackHall$Timing", "sourceOf", "(II)I"⟩, 9) := ⟨⟨by decide +kernel, by decide +kernel⟩, List.mem_of_getElem? (i := 278) (by decide +kernel), List.mem_of_getElem? (i := 531) (by decide +kernel), List.mem_of_getElem? (i := 532) (by decide +kernel)⟩
theorem lw_p11 : lw_okq (⟨"SlackHall$Timing", "beats", "(III)Z"⟩, 9) := ⟨⟨by decide +kernel, by decide +kernel⟩, List.mem_of_getElem? (i := 278) (by decide +kernel), List.mem_of_getElem? (i := 539) (by decide +kernel), List.mem_of_getElem? (i := 540) (by decide +kernel)⟩
theorem lw_p12 : lw_okq (⟨"java/lang/Throwable", "fillInStackTrace", "(I)Ljava/lang/Throwable;"⟩, 6) := ⟨⟨by decide +kernel, by decide +kernel⟩, List.mem_of_getElem? (i := 620) (by decide +kernel), List.mem_of_getElem? (i := 618) (by decide +kernel), List.mem_of_getElem? (i := 619) (by decide +kernel)⟩
theorem lw_p13 : lw_okq (⟨"SlackHall$Paths", "isSafe", "(II)Z"⟩, 6) := ⟨⟨by decide +kernel, by decide +kernel⟩, List.mem_of_getElem? (i := 229) (by decide +kernel), List.mem_of_getElem? (i := 677) (by decide +kernel), List.mem_of_getElem? (i := 678) (by decide +kernel)⟩
theorem lw_p14 : lw_okq (⟨"SlackHall", "digestNode", "(JI)J"⟩, 4) := ⟨⟨by decide +kernel, by decide +kernel⟩, List.mem_of_getElem? (i := 33) (by decide +kernel), List.mem_of_getElem? (i := 712) (by decide +kernel), List.mem_of_getElem? (i := 713) (by decide +kernel)⟩
theorem lw_p15 : lw_okq (⟨"SlackHall$Timing", "worstStart", "(I)I"⟩, 9) := ⟨⟨by decide +kernel, by decide +kernel⟩, List.mem_of_getElem? (i := 278) (by decide +kernel), List.mem_of_getElem? (i := 757) (by decide +kernel), List.mem_of_getElem? (i := 758) (by decide +kernel)⟩
def lw_privs_1 : List (MethodName × Nat) := [(⟨"SlackHall$Paths", "join", "(II)V"⟩, 6), (⟨"SlackHall$Paths", "check", "(I)V"⟩, 6), (⟨"SlackHall$Delays", "burden", "(IF)V"⟩, 4), (⟨"SlackHall$Timing", "settle", "(ILSlackHall$Corner;)V"⟩, 9), (⟨"SlackHall$Timing", "leftForLate", "(IILSlackHall$Corner;)D"⟩, 9), (⟨"SlackHall$Timing", "leftForEarly", "(IILSlackHall$Corner;)D"⟩, 9), (⟨"SlackHall$Timing", "lend", "(I)V"⟩, 9), (⟨"SlackHall$Timing", "depart", "(ILSlackHall$Corner;)V"⟩, 9), (⟨"SlackHall$Timing", "delayOf", "(IILSlackHall$Corner;)D"⟩, 9), (⟨"SlackHall$Timing", "pass", "(ILSlackHall$Corner;)V"⟩, 9), (⟨"SlackHall$Timing", "sourceOf", "(II)I"⟩, 9), (⟨"SlackHall$Timing", "beats", "(III)Z"⟩, 9), (⟨"java/lang/Throwable", "fillInStackTrace", "(I)Ljava/lang/Throwable;"⟩, 6), (⟨"SlackHall$Paths", "isSafe", "(II)Z"⟩, 6), (⟨"SlackHall", "digestNode", "(JI)J"⟩, 4), (⟨"SlackHall$Timing", "worstStart", "(I)I"⟩, 9)]
theorem lw_r1 : ∀ q ∈ lw_privs_1, lw_okq q := List.forall_mem_cons.mpr ⟨lw_p0, List.forall_mem_cons.mpr ⟨lw_p1, List.forall_mem_cons.mpr ⟨lw_p2, List.forall_mem_cons.mpr ⟨lw_p3, List.forall_mem_cons.mpr ⟨lw_p4, List.forall_mem_cons.mpr ⟨lw_p5, List.forall_mem_cons.mpr ⟨lw_p6, List.forall_mem_cons.mpr ⟨lw_p7, List.forall_mem_cons.mpr ⟨lw_p8, List.forall_mem_cons.mpr ⟨lw_p9, List.forall_mem_cons.mpr ⟨lw_p10, List.forall_mem_cons.mpr ⟨lw_p11, List.forall_mem_cons.mpr ⟨lw_p12, List.forall_mem_cons.mpr ⟨lw_p13, List.forall_mem_cons.mpr ⟨lw_p14, List.forall_mem_cons.mpr ⟨lw_p15, fun _ h => absurd h List.not_mem_nil⟩⟩⟩⟩⟩⟩⟩⟩⟩⟩⟩⟩⟩⟩⟩⟩
theorem lw_p16 : lw_okq (⟨"SlackHall", "mustBeOpen", "(Z)V"⟩, 4) := ⟨⟨by decide +kernel, by decide +kernel⟩, List.mem_of_getElem? (i := 33) (by decide +kernel), List.mem_of_getElem? (i := 775) (by decide +kernel), List.mem_of_getElem? (i := 776) (by decide +kernel)⟩
theorem lw_p17 : lw_okq (⟨"SlackHall", "mustBePair", "(II)V"⟩, 4) := ⟨⟨by decide +kernel, by decide +kernel⟩, List.mem_of_getElem? (i := 33) (by decide +kernel), List.mem_of_getElem? (i := 912) (by decide +kernel), List.mem_of_getElem? (i := 913) (by decide +kernel)⟩
theorem lw_p18 : lw_okq (⟨"java/util/ArrayList", "add", "(Ljava/lang/Object;[Ljava/lang/Object;I)V"⟩, 3) := ⟨⟨by decide +kernel, by decide +kernel⟩, List.mem_of_getElem? (i := 980) (by decide +kernel), List.mem_of_getElem? (i := 1013) (by decide +kernel), List.mem_of_getElem? (i := 1014) (by decide +kernel)⟩
theorem lw_p19 : lw_okq (⟨"java/util/ArrayList", "grow", "()[Ljava/lang/Object;"⟩, 3) := ⟨⟨by decide +kernel, by decide +kernel⟩, List.mem_of_getElem? (i := 980) (by decide +kernel), List.mem_of_getElem? (i := 1017) (by decide +kernel), List.mem_of_getElem? (i := 1018) (by decide +kernel)⟩
theorem lw_p20 : lw_okq (⟨"java/util/ArrayList", "grow", "(I)[Ljava/lang/Object;"⟩, 3) := ⟨⟨by decide +kernel, by decide +kernel⟩, List.mem_of_getElem? (i := 980) (by decide +kernel), List.mem_of_getElem? (i := 1021) (by decide +kernel), List.mem_of_getElem? (i := 1022) (by decide +kernel)⟩
theorem lw_p21 : lw_okq (⟨"SlackHallModel", "start", "(ZI)Z"⟩, 7) := ⟨⟨by decide +kernel, by decide +kernel⟩, List.mem_of_getElem? (i := 974) (by decide +kernel), List.mem_of_getElem? (i := 1110) (by decide +kernel), List.mem_of_getElem? (i := 1111) (by decide +kernel)⟩
theorem lw_p22 : lw_okq (⟨"SlackHallModel", "refuse", "(ZI)Z"⟩, 7) := ⟨⟨by decide +kernel, by decide +kernel⟩, List.mem_of_getElem? (i := 974) (by decide +kernel), List.mem_of_getElem? (i := 1114) (by decide +kernel), List.mem_of_getElem? (i := 1115) (by decide +kernel)⟩
theorem lw_p23 : lw_okq (⟨"SlackHallModel", "isNoClock", "(I)Z"⟩, 7) := ⟨⟨by decide +kernel, by decide +kernel⟩, List.mem_of_getElem? (i := 974) (by decide +kernel), List.mem_of_getElem? (i := 1125) (by decide +kernel), List.mem_of_getElem? (i := 1126) (by decide +kernel)⟩
theorem lw_p24 : lw_okq (⟨"SlackHallModel", "isNoNode", "(I)Z"⟩, 7) := ⟨⟨by decide +kernel, by decide +kernel⟩, List.mem_of_getElem? (i := 974) (by decide +kernel), List.mem_of_getElem? (i := 1152) (by decide +kernel), List.mem_of_getElem? (i := 1153) (by decide +kernel)⟩
theorem lw_p25 : lw_okq (⟨"SlackHallModel", "kind", "(I)I"⟩, 7) := ⟨⟨by decide +kernel, by decide +kernel⟩, List.mem_of_getElem? (i := 974) (by decide +kernel), List.mem_of_getElem? (i := 1156) (by decide +kernel), List.mem_of_getElem? (i := 1157) (by decide +kernel)⟩
theorem lw_p26 : lw_okq (⟨"SlackHallModel", "loadOf", "(I)F"⟩, 7) := ⟨⟨by decide +kernel, by decide +kernel⟩, List.mem_of_getElem? (i := 974) (by decide +kernel), List.mem_of_getElem? (i := 1175) (by decide +kernel), List.mem_of_getElem? (i := 1176) (by decide +kernel)⟩
theorem lw_p27 : lw_okq (⟨"SlackHallModel", "isStart", "(I)Z"⟩, 7) := ⟨⟨by decide +kernel, by decide +kernel⟩, List.mem_of_getElem? (i := 974) (by decide +kernel), List.mem_of_getElem? (i := 1235) (by decide +kernel), List.mem_of_getElem? (i := 1236) (by decide +kernel)⟩
theorem lw_p28 : lw_okq (⟨"SlackHallModel", "isEnd", "(I)Z"⟩, 7) := ⟨⟨by decide +kernel, by decide +kernel⟩, List.mem_of_getElem? (i := 974) (by decide +kernel), List.mem_of_getElem? (i := 1239) (by decide +kernel), List.mem_of_getElem? (i := 1240) (by decide +kernel)⟩
theorem lw_p29 : lw_okq (⟨"SlackHallModel", "toldOfNode", "(II)I"⟩, 7) := ⟨⟨by decide +kernel, by decide +kernel⟩, List.mem_of_getElem? (i := 974) (by decide +kernel), List.mem_of_getElem? (i := 1259) (by decide +kernel), List.mem_of_getElem? (i := 1260) (by decide +kernel)⟩
theorem lw_p30 : lw_okq (⟨"SlackHallModel", "takesOf", "(II)D"⟩, 7) := ⟨⟨by decide +kernel, by decide +kernel⟩, List.mem_of_getElem? (i := 974) (by decide +kernel), List.mem_of_getElem? (i := 1274) (by decide +kernel), List.mem_of_getElem? (i := 1275) (by decide +kernel)⟩
theorem lw_p31 : lw_okq (⟨"SlackHallModel", "isNoCorner", "(I)Z"⟩, 7) := ⟨⟨by decide +kernel, by decide +kernel⟩, List.mem_of_getElem? (i := 974) (by decide +kernel), List.mem_of_getElem? (i := 1292) (by decide +kernel), List.mem_of_getElem? (i := 1293) (by decide +kernel)⟩
def lw_privs_2 : List (MethodName × Nat) := [(⟨"SlackHall", "mustBeOpen", "(Z)V"⟩, 4), (⟨"SlackHall", "mustBePair", "(II)V"⟩, 4), (⟨"java/util/ArrayList", "add", "(Ljava/lang/Object;[Ljava/lang/Object;I)V"⟩, 3), (⟨"java/util/ArrayList", "grow", "()[Ljava/lang/Object;"⟩, 3), (⟨"java/util/ArrayList", "grow", "(I)[Ljava/lang/Object;"⟩, 3), (⟨"SlackHallModel", "start", "(ZI)Z"⟩, 7), (⟨"SlackHallModel", "refuse", "(ZI)Z"⟩, 7), (⟨"SlackHallModel", "isNoClock", "(I)Z"⟩, 7), (⟨"SlackHallModel", "isNoNode", "(I)Z"⟩, 7), (⟨"SlackHallModel", "kind", "(I)I"⟩, 7), (⟨"SlackHallModel", "loadOf", "(I)F"⟩, 7), (⟨"SlackHallModel", "isStart", "(I)Z"⟩, 7), (⟨"SlackHallModel", "isEnd", "(I)Z"⟩, 7), (⟨"SlackHallModel", "toldOfNode", "(II)I"⟩, 7), (⟨"SlackHallModel", "takesOf", "(II)D"⟩, 7), (⟨"SlackHallModel", "isNoCorner", "(I)Z"⟩, 7)]
theorem lw_r2 : ∀ q ∈ lw_privs_2, lw_okq q := List.forall_mem_cons.mpr ⟨lw_p16, List.forall_mem_cons.mpr ⟨lw_p17, List.forall_mem_cons.mpr ⟨lw_p18, List.forall_mem_cons.mpr ⟨lw_p19, List.forall_mem_cons.mpr ⟨lw_p20, List.forall_mem_cons.mpr ⟨lw_p21, List.forall_mem_cons.mpr ⟨lw_p22, List.forall_mem_cons.mpr ⟨lw_p23, List.forall_mem_cons.mpr ⟨lw_p24, List.forall_mem_cons.mpr ⟨lw_p25, List.forall_mem_cons.mpr ⟨lw_p26, List.forall_mem_cons.mpr ⟨lw_p27, List.forall_mem_cons.mpr ⟨lw_p28, List.forall_mem_cons.mpr ⟨lw_p29, List.forall_mem_cons.mpr ⟨lw_p30, List.forall_mem_cons.mpr ⟨lw_p31, fun _ h => absurd h List.not_mem_nil⟩⟩⟩⟩⟩⟩⟩⟩⟩⟩⟩⟩⟩⟩⟩⟩
theorem lw_p32 : lw_okq (⟨"SlackHallModel$Look", "borrowed", "(I)D"⟩, 6) := ⟨⟨by decide +kernel, by decide +kernel⟩, List.mem_of_getElem? (i := 1296) (by decide +kernel), List.mem_of_getElem? (i := 1308) (by decide +kernel), List.mem_of_getElem? (i := 1309) (by decide +kernel)⟩
theorem lw_p33 : lw_okq (⟨"SlackHallModel", "isChecked", "(II)Z"⟩, 7) := ⟨⟨by decide +kernel, by decide +kernel⟩, List.mem_of_getElem? (i := 974) (by decide +kernel), List.mem_of_getElem? (i := 1313) (by decide +kernel), List.mem_of_getElem? (i := 1314) (by decide +kernel)⟩
theorem lw_p34 : lw_okq (⟨"SlackHallModel", "winnerOf", "(II)I"⟩, 7) := ⟨⟨by decide +kernel, by decide +kernel⟩, List.mem_of_getElem? (i := 974) (by decide +kernel), List.mem_of_getElem? (i := 1317) (by decide +kernel), List.mem_of_getElem? (i := 1318) (by decide +kernel)⟩
theorem lw_p35 : lw_okq (⟨"SlackHallModel", "isMet", "(II)Z"⟩, 7) := ⟨⟨by decide +kernel, by decide +kernel⟩, List.mem_of_getElem? (i := 974) (by decide +kernel), List.mem_of_getElem? (i := 1327) (by decide +kernel), List.mem_of_getElem? (i := 1328) (by decide +kernel)⟩
theorem lw_p36 : lw_okq (⟨"SlackHallModel", "waysTo", "(II)I"⟩, 7) := ⟨⟨by decide +kernel, by decide +kernel⟩, List.mem_of_getElem? (i := 974) (by decide +kernel), List.mem_of_getElem? (i := 1331) (by decide +kernel), List.mem_of_getElem? (i := 1332) (by decide +kernel)⟩
theorem lw_p37 : lw_okq (⟨"SlackHallModel", "groupOf", "(I)I"⟩, 7) := ⟨⟨by decide +kernel, by decide +kernel⟩, List.mem_of_getElem? (i := 974) (by decide +kernel), List.mem_of_getElem? (i := 1335) (by decide +kernel), List.mem_of_getElem? (i := 1336) (by decide +kernel)⟩
theorem lw_p38 : lw_okq (⟨"SlackHallModel", "factor", "(IZ)D"⟩, 7) := ⟨⟨by decide +kernel, by decide +kernel⟩, List.mem_of_getElem? (i := 974) (by decide +kernel), List.mem_of_getElem? (i := 1345) (by decide +kernel), List.mem_of_getElem? (i := 1346) (by decide +kernel)⟩
theorem lw_p39 : lw_okq (⟨"SlackHallModel$Look", "arrivals", "(IZ)[[D"⟩, 6) := ⟨⟨by decide +kernel, by decide +kernel⟩, List.mem_of_getElem? (i := 1296) (by decide +kernel), List.mem_of_getElem? (i := 1355) (by decide +kernel), List.mem_of_getElem? (i := 1356) (by decide +kernel)⟩
theorem lw_p40 : lw_okq (⟨"SlackHallModel", "isNoPair", "(II)Z"⟩, 7) := ⟨⟨by decide +kernel, by decide +kernel⟩, List.mem_of_getElem? (i := 974) (by decide +kernel), List.mem_of_getElem? (i := 1407) (by decide +kernel), List.mem_of_getElem? (i := 1408) (by decide +kernel)⟩
theorem lw_p41 : lw_okq (⟨"SlackHallModel", "isOdd", "(II)Z"⟩, 7) := ⟨⟨by decide +kernel, by decide +kernel⟩, List.mem_of_getElem? (i := 974) (by decide +kernel), List.mem_of_getElem? (i := 1411) (by decide +kernel), List.mem_of_getElem? (i := 1412) (by decide +kernel)⟩
theorem lw_p42 : lw_okq (⟨"SlackHallModel", "leftOf", "(IIIZ)D"⟩, 7) := ⟨⟨by decide +kernel, by decide +kernel⟩, List.mem_of_getElem? (i := 974) (by decide +kernel), List.mem_of_getElem? (i := 1419) (by decide +kernel), List.mem_of_getElem? (i := 1420) (by decide +kernel)⟩
theorem lw_p43 : lw_okq (⟨"SlackHallModel", "leftIn", "(IIZ)D"⟩, 7) := ⟨⟨by decide +kernel, by decide +kernel⟩, List.mem_of_getElem? (i := 974) (by decide +kernel), List.mem_of_getElem? (i := 1432) (by decide +kernel), List.mem_of_getElem? (i := 1433) (by decide +kernel)⟩
theorem lw_p44 : lw_okq (⟨"SlackHallModel", "borrowOf", "(II)D"⟩, 7) := ⟨⟨by decide +kernel, by decide +kernel⟩, List.mem_of_getElem? (i := 974) (by decide +kernel), List.mem_of_getElem? (i := 1445) (by decide +kernel), List.mem_of_getElem? (i := 1446) (by decide +kernel)⟩
theorem lw_p45 : lw_okq (⟨"SlackHallModel", "worstOf", "(II)I"⟩, 7) := ⟨⟨by decide +kernel, by decide +kernel⟩, List.mem_of_getElem? (i := 974) (by decide +kernel), List.mem_of_getElem? (i := 1457) (by decide +kernel), List.mem_of_getElem? (i := 1458) (by decide +kernel)⟩
theorem lw_p46 : lw_okq (⟨"SlackHallModel", "told", "(I)I"⟩, 7) := ⟨⟨by decide +kernel, by decide +kernel⟩, List.mem_of_getElem? (i := 974) (by decide +kernel), List.mem_of_getElem? (i := 1468) (by decide +kernel), List.mem_of_getElem? (i := 1469) (by decide +kernel)⟩
theorem lw_p47 : lw_okq (⟨"SlackHallModel", "lacking", "(Z)I"⟩, 7) := ⟨⟨by decide +kernel, by decide +kernel⟩, List.mem_of_getElem? (i := 974) (by decide +kernel), List.mem_of_getElem? (i := 1472) (by decide +kernel), List.mem_of_getElem? (i := 1473) (by decide +kernel)⟩
def lw_privs_3 : List (MethodName × Nat) := [(⟨"SlackHallModel$Look", "borrowed", "(I)D"⟩, 6), (⟨"SlackHallModel", "isChecked", "(II)Z"⟩, 7), (⟨"SlackHallModel", "winnerOf", "(II)I"⟩, 7), (⟨"SlackHallModel", "isMet", "(II)Z"⟩, 7), (⟨"SlackHallModel", "waysTo", "(II)I"⟩, 7), (⟨"SlackHallModel", "groupOf", "(I)I"⟩, 7), (⟨"SlackHallModel", "factor", "(IZ)D"⟩, 7), (⟨"SlackHallModel$Look", "arrivals", "(IZ)[[D"⟩, 6), (⟨"SlackHallModel", "isNoPair", "(II)Z"⟩, 7), (⟨"SlackHallModel", "isOdd", "(II)Z"⟩, 7), (⟨"SlackHallModel", "leftOf", "(IIIZ)D"⟩, 7), (⟨"SlackHallModel", "leftIn", "(IIZ)D"⟩, 7), (⟨"SlackHallModel", "borrowOf", "(II)D"⟩, 7), (⟨"SlackHallModel", "worstOf", "(II)I"⟩, 7), (⟨"SlackHallModel", "told", "(I)I"⟩, 7), (⟨"SlackHallModel", "lacking", "(Z)I"⟩, 7)]
theorem lw_r3 : ∀ q ∈ lw_privs_3, lw_okq q := List.forall_mem_cons.mpr ⟨lw_p32, List.forall_mem_cons.mpr ⟨lw_p33, List.forall_mem_cons.mpr ⟨lw_p34, List.forall_mem_cons.mpr ⟨lw_p35, List.forall_mem_cons.mpr ⟨lw_p36, List.forall_mem_cons.mpr ⟨lw_p37, List.forall_mem_cons.mpr ⟨lw_p38, List.forall_mem_cons.mpr ⟨lw_p39, List.forall_mem_cons.mpr ⟨lw_p40, List.forall_mem_cons.mpr ⟨lw_p41, List.forall_mem_cons.mpr ⟨lw_p42, List.forall_mem_cons.mpr ⟨lw_p43, List.forall_mem_cons.mpr ⟨lw_p44, List.forall_mem_cons.mpr ⟨lw_p45, List.forall_mem_cons.mpr ⟨lw_p46, List.forall_mem_cons.mpr ⟨lw_p47, fun _ h => absurd h List.not_mem_nil⟩⟩⟩⟩⟩⟩⟩⟩⟩⟩⟩⟩⟩⟩⟩⟩
theorem lw_p48 : lw_okq (⟨"SlackHallModel", "isLacking", "(IZ)Z"⟩, 7) := ⟨⟨by decide +kernel, by decide +kernel⟩, List.mem_of_getElem? (i := 974) (by decide +kernel), List.mem_of_getElem? (i := 1476) (by decide +kernel), List.mem_of_getElem? (i := 1477) (by decide +kernel)⟩
theorem lw_p49 : lw_okq (⟨"SlackHallModel", "pairs", "(I)I"⟩, 7) := ⟨⟨by decide +kernel, by decide +kernel⟩, List.mem_of_getElem? (i := 974) (by decide +kernel), List.mem_of_getElem? (i := 1480) (by decide +kernel), List.mem_of_getElem? (i := 1481) (by decide +kernel)⟩
theorem lw_p50 : lw_okq (⟨"SlackHallModel", "leastOf", "(Z)D"⟩, 7) := ⟨⟨by decide +kernel, by decide +kernel⟩, List.mem_of_getElem? (i := 974) (by decide +kernel), List.mem_of_getElem? (i := 1488) (by decide +kernel), List.mem_of_getElem? (i := 1489) (by decide +kernel)⟩
theorem lw_p51 : lw_okq (⟨"SlackHallModel", "leastBy", "(II)D"⟩, 7) := ⟨⟨by decide +kernel, by decide +kernel⟩, List.mem_of_getElem? (i := 974) (by decide +kernel), List.mem_of_getElem? (i := 1498) (by decide +kernel), List.mem_of_getElem? (i := 1499) (by decide +kernel)⟩
theorem lw_p52 : lw_okq (⟨"SlackHallModel", "bestOf", "()I"⟩, 7) := ⟨⟨by decide +kernel, by decide +kernel⟩, List.mem_of_getElem? (i := 974) (by decide +kernel), List.mem_of_getElem? (i := 1506) (by decide +kernel), List.mem_of_getElem? (i := 1507) (by decide +kernel)⟩
theorem lw_p53 : lw_okq (⟨"SlackHallModel", "isUnder", "(II)Z"⟩, 7) := ⟨⟨by decide +kernel, by decide +kernel⟩, List.mem_of_getElem? (i := 974) (by decide +kernel), List.mem_of_getElem? (i := 1514) (by decide +kernel), List.mem_of_getElem? (i := 1515) (by decide +kernel)⟩
def lw_privs_4 : List (MethodName × Nat) := [(⟨"SlackHallModel", "isLacking", "(IZ)Z"⟩, 7), (⟨"SlackHallModel", "pairs", "(I)I"⟩, 7), (⟨"SlackHallModel", "leastOf", "(Z)D"⟩, 7), (⟨"SlackHallModel", "leastBy", "(II)D"⟩, 7), (⟨"SlackHallModel", "bestOf", "()I"⟩, 7), (⟨"SlackHallModel", "isUnder", "(II)Z"⟩, 7)]
theorem lw_r4 : ∀ q ∈ lw_privs_4, lw_okq q := List.forall_mem_cons.mpr ⟨lw_p48, List.forall_mem_cons.mpr ⟨lw_p49, List.forall_mem_cons.mpr ⟨lw_p50, List.forall_mem_cons.mpr ⟨lw_p51, List.forall_mem_cons.mpr ⟨lw_p52, List.forall_mem_cons.mpr ⟨lw_p53, fun _ h => absurd h List.not_mem_nil⟩⟩⟩⟩⟩⟩
def lw_privs : List (MethodName × Nat) := lw_privs_1 ++ (lw_privs_2 ++ (lw_privs_3 ++ (lw_privs_4)))
def lw_tbl : List Cond := k2_sels lw_privs ++ tables_1
theorem lw_privs_ok : ∀ q ∈ lw_privs, lw_okq q := by
  show ∀ q ∈ lw_privs_1 ++ (lw_privs_2 ++ (lw_privs_3 ++ (lw_privs_4))), lw_okq q
  exact List.forall_mem_append.mpr ⟨lw_r1, List.forall_mem_append.mpr ⟨lw_r2, List.forall_mem_append.mpr ⟨lw_r3, lw_r4⟩⟩⟩
/-- the streams that the claim lets the run draw from -/
abbrev lw_cs : List Choice := [Jvm.Choice.named "NaN.bits"]
theorem lw_bits : nanBits ∈ lw_cs := by first | decide | exact List.mem_cons_self | simp [lw_cs, nanBits]
end
section
/-! STUB while the little machine is made -/
def j_cl : List vw_C := []
def j_all : List Cond := lw_tbl.filter goodWord
def j_ty : List FieldType := [.int]
def j_nm : List (String × Nat × MethodName × String) := []
def j_ao : List String := []
end
section
/-! THE LITTLE MACHINE: a run of a method over a list of numbered cells; its rules stand on the kit's rows, and are used without them -/
abbrev j_C : Type := (Nat × vp_A) ⊕ (Nat × List Value)
abbrev j_H : Type := List j_C × Nat
abbrev j_M : Type := MethodName × ByteArray × Nat × Option FieldType
abbrev j_L : Type := List (Nat × Value)
def j_v (ad : Nat → Nat) : Value → Value := fun v => match v with
  | .ref a => .ref (ad a)
  | v => v
def j_f (ad : Nat → Nat) (f : Nat → Option Nat) : Nat → Option Nat := fun j => (f j).map ad
def j_c (ad : Nat → Nat) (tc : Nat → ClassId) : j_C → va_E := fun x => match x with
  | .inl (t, n, .inl f) => .inl (tc t, n, .inl f)
  | .inl (t, n, .inr (.inl f)) => .inl (tc t, n, .inr (.inl f))
  | .inl (t, n, .inr (.inr (.inl f))) => .inl (tc t, n, .inr (.inr (.inl f)))
  | .inl (t, n, .inr (.inr (.inr (.inl f)))) => .inl (tc t, n, .inr (.inr (.inr (.inl f))))
  | .inl (t, n, .inr (.inr (.inr (.inr f)))) => .inl (tc t, n, .inr (.inr (.inr (.inr (j_f ad f)))))
  | .inr (c, fs) => .inr (c, fs.map (j_v ad))
def j_w (ad : Nat → Nat) (tc : Nat → ClassId) (G : List j_C) : va_W := G.mapIdx (fun k c => (ad (k + 1), j_c ad tc c))
def j_tys (tc : Nat → ClassId) : List (ClassId × FieldType) := j_ty.mapIdx (fun t ty => (tc t, ty))
def j_A (ad : Nat → Nat) : Nat → Prop := fun q => ∃ k, q = ad (k + 1)
def j_KW (U : State) : Prop := (∀ w ∈ j_nm, va_Nw (.methodLinkNest w.1 w.2.1 w.2.2.1 w.2.2.2) U) ∧ ∀ C ∈ j_ao, va_AO C U
def j_P (D : va_G) (ad : Nat → Nat) (tc : Nat → ClassId) (H : Heap) (h : j_H) : Prop := va_P D j_cl (j_w ad tc h.1) H ∧ ∀ k, ad (h.1.length + 1 + k) = H.size + k
def j_lv (ad : Nat → Nat) (ls : Array Slot) (n : Nat) (lv : j_L) : Prop := lv_has ls n (lv.map (fun q => (q.1, j_v ad q.2)))
def j_Fix (D : va_G) (ad : Nat → Nat) (tc : Nat → ClassId) (L : Nat) (xs : Nat → Int32) (M : j_M) (p : Program) (s : State) (m : MethodId) (args : Array Value) (meth : Method) (c : Code) : Prop :=
  p.tables.exec = Jvm.exec ∧ c.code = M.2.1 ∧ c.maxLocals = M.2.2.1 ∧ s.vm.findClass M.1.cls = some m.cls ∧ (∀ w ∈ j_all, w.before args s = true) ∧ j_KW s ∧ va_K D j_cl (j_tys tc) s ∧ va_X (ad 0) L xs s s.heap ∧ ad 0 < s.heap.size ∧ meth.name = M.1.name ∧ ∀ i j, ad i = ad j → i = j
def j_ret (ins : Instr) (r : Option Value) : Prop := match ins, r with
  | .ireturn, some (.int _) => True
  | .lreturn, some (.long _) => True
  | .freturn, some (.float _) => True
  | .dreturn, some (.double _) => True
  | .areturn, some (.ref _) => True
  | .areturn, some .null => True
  | .return_, none => True
  | _, _ => False
/-- from this point of the method M, over the cells h, it comes to a return of r over the cells h' -/
def Rn (l : Launch) (D : va_G) (ad : Nat → Nat) (tc : Nat → ClassId) (L : Nat) (xs : Nat → Int32) (M : j_M) (d lo pc : Nat) (lv : j_L) (st : List Value) (h : j_H) (r : Option Value) (h' : j_H) : Prop :=
  (h.1.length ≤ h'.1.length ∧ h.2 ≤ h'.2) ∧
  ∀ (p : Program) (e : Env) (R : Room) (s : State) (m : MethodId) (args : Array Value) (below : List Frame) (meth : Method) (c : Code) (H : Heap) (locs : List Loc) (cells slots mc ms : Nat) (ls : Array Slot) (Q : State → Prop),
    j_Fix D ad tc L xs M p s m args meth c → d ≤ R.frames → lo ≤ R.locals → mc ≤ R.cells → ms ≤ R.slots →
    cells + (h'.1.length - h.1.length) = mc → slots + (h'.2 - h.2) = ms → j_lv ad ls M.2.2.1 lv → j_P D ad tc H h → va_S (j_A ad) s.heap H locs →
    (∀ (pcr : Nat) (lsr : Array Slot) (Hr : Heap) (locsr : List Loc) (ins : Instr), decode M.2.1 pcr = .ok (ins, 1) → j_ret ins r → j_P D ad tc Hr h' → va_S (j_A ad) s.heap Hr locsr → W p l e R s m args below meth c Hr locsr mc ms Q (F0 m pcr lsr (r.toList.map (j_v ad)))) →
    W p l e R s m args below meth c H locs cells slots Q (F0 m pc ls (st.map (j_v ad)))
section J1
variable {l : Launch} {D : va_G} {ad : Nat → Nat} {tc : Nat → ClassId} {L : Nat} {xs : Nat → Int32} {M : j_M} {d lo pc pc' : Nat} {lv lv' : j_L} {st st' : List Value} {h h' h2 : j_H} {r : Option Value}
/-- a step that changes neither cells nor locals -/
theorem rn_pure (f : ∀ (p : Program) (e : Env) (R : Room) (s : State) (m : MethodId) (args : Array Value) (below : List Frame) (meth : Method) (c : Code) (H : Heap) (locs : List Loc) (cells slots : Nat) (ls : Array Slot) (Q : State → Prop),
    j_Fix D ad tc L xs M p s m args meth c → d ≤ R.frames → lo ≤ R.locals → j_lv ad ls M.2.2.1 lv → j_P D ad tc H h → va_S (j_A ad) s.heap H locs → W p l e R s m args below meth c H locs cells slots Q (F0 m pc' ls (st'.map (j_v ad))) → W p l e R s m args below meth c H locs cells slots Q (F0 m pc ls (st.map (j_v ad))))
    (k : Rn l D ad tc L xs M d lo pc' lv st' h r h') : Rn l D ad tc L xs M d lo pc lv st h r h' :=
  ⟨k.1, fun p e R s m args below meth c H locs cells slots mc ms ls Q hF h1 h2 h3 h4 h5 h6 hl hP hS hQ => f p e R s m args below meth c H locs cells slots ls Q hF h1 h2 hl hP hS (k.2 p e R s m args below meth c H locs cells slots mc ms ls Q hF h1 h2 h3 h4 h5 h6 hl hP hS hQ)⟩
/-- a step that changes locals -/
theorem rn_loc (f : ∀ (p : Program) (e : Env) (R : Room) (s : State) (m : MethodId) (args : Array Value) (below : List Frame) (meth : Method) (c : Code) (H : Heap) (locs : List Loc) (cells slots : Nat) (ls : Array Slot) (Q : State → Prop),
    j_Fix D ad tc L xs M p s m args meth c → j_lv ad ls M.2.2.1 lv → (∀ ls : Array Slot, j_lv ad ls M.2.2.1 lv' → W p l e R s m args below meth c H locs cells slots Q (F0 m pc' ls (st'.map (j_v ad)))) → W p l e R s m args below meth c H locs cells slots Q (F0 m pc ls (st.map (j_v ad))))
    (k : Rn l D ad tc L xs M d lo pc' lv' st' h r h') : Rn l D ad tc L xs M d lo pc lv st h r h' :=
  ⟨k.1, fun p e R s m args below meth c H locs cells slots mc ms ls Q hF h1 h2 h3 h4 h5 h6 hl hP hS hQ => f p e R s m args below meth c H locs cells slots ls Q hF hl (fun ls hl => k.2 p e R s m args below meth c H locs cells slots mc ms ls Q hF h1 h2 h3 h4 h5 h6 hl hP hS hQ)⟩
/-- a step that changes a cell -/
theorem rn_cell (e1 : h2.1.length = h.1.length) (e2 : h2.2 = h.2) (f : ∀ (p : Program) (e : Env) (R : Room) (s : State) (m : MethodId) (args : Array Value) (below : List Frame) (meth : Method) (c : Code) (H : Heap) (locs : List Loc) (cells slots : Nat) (ls : Array Slot) (Q : State → Prop),
    j_Fix D ad tc L xs M p s m args meth c → j_lv ad ls M.2.2.1 lv → j_P D ad tc H h → va_S (j_A ad) s.heap H locs → (∀ (H : Heap) (locs : List Loc), j_P D ad tc H h2 → va_S (j_A ad) s.heap H locs → W p l e R s m args below meth c H locs cells slots Q (F0 m pc' ls (st'.map (j_v ad)))) → W p l e R s m args below meth c H locs cells slots Q (F0 m pc ls (st.map (j_v ad))))
    (k : Rn l D ad tc L xs M d lo pc' lv st' h2 r h') : Rn l D ad tc L xs M d lo pc lv st h r h' :=
  ⟨by rw [← e1, ← e2]; exact k.1, fun p e R s m args below meth c H locs cells slots mc ms ls Q hF h1 h2 h3 h4 h5 h6 hl hP hS hQ => f p e R s m args below meth c H locs cells slots ls Q hF hl hP hS (fun H locs hP hS => k.2 p e R s m args below meth c H locs cells slots mc ms ls Q hF h1 h2 h3 h4 (by rw [e1]; exact h5) (by rw [e2]; exact h6) hl hP hS hQ)⟩
/-- a step that makes a cell of n slots -/
theorem rn_make {x : j_C} {n : Nat} (f : ∀ (p : Program) (e : Env) (R : Room) (s : State) (m : MethodId) (args : Array Value) (below : List Frame) (meth : Method) (c : Code) (H : Heap) (locs : List Loc) (cells slots : Nat) (ls : Array Slot) (Q : State → Prop),
    j_Fix D ad tc L xs M p s m args meth c → cells + 1 ≤ R.cells → slots + n ≤ R.slots → j_P D ad tc H h → va_S (j_A ad) s.heap H locs → (∀ (H : Heap), j_P D ad tc H (h.1 ++ [x], h.2 + n) → va_S (j_A ad) s.heap H locs → W p l e R s m args below meth c H locs (cells + 1) (slots + n) Q (F0 m pc' ls (st'.map (j_v ad)))) → W p l e R s m args below meth c H locs cells slots Q (F0 m pc ls (st.map (j_v ad))))
    (k : Rn l D ad tc L xs M d lo pc' lv st' (h.1 ++ [x], h.2 + n) r h') : Rn l D ad tc L xs M d lo pc lv st h r h' := by
  have hk := k.1
  simp only [List.length_append, List.length_cons, List.length_nil] at hk
  refine ⟨⟨by omega, by omega⟩, fun p e R s m args below meth c H locs cells slots mc ms ls Q hF h1 h2 h3 h4 h5 h6 hl hP hS hQ => f p e R s m args below meth c H locs cells slots ls Q hF (by omega) (by omega) hP hS (fun H hP hS => k.2 p e R s m args below meth c H locs (cells + 1) (slots + n) mc ms ls Q hF h1 h2 h3 h4 ?_ ?_ hl hP hS hQ)⟩
  · simp only [List.length_append, List.length_cons, List.length_nil]
    omega
  · show slots + n + (h'.2 - (h.2 + n)) = ms
    omega
end J1
end
section
/-! the locals of the little machine: what is known of them, by their numbers -/
def j_g : j_L → Nat → Option Value := fun lv i => match lv with
  | [] => none
  | q :: r => if q.1 = i then some q.2 else j_g r i
def j_s1 (i : Nat) (v : Value) (lv : j_L) : j_L := (i, v) :: lv.filter (fun q => !(q.1 == i) && !(q.1 + 1 == i && q.2.category == 2))
def j_s2 (i : Nat) (v : Value) (lv : j_L) : j_L := (i, v) :: lv.filter (fun q => !(q.1 == i) && (!(q.1 == i + 1) && !(q.1 + 1 == i && q.2.category == 2)))
theorem j_cat {ad : Nat → Nat} (v : Value) : (j_v ad v).category = v.category := by cases v <;> rfl
theorem j_g_mem : ∀ {lv : j_L} {i : Nat} {v : Value}, j_g lv i = some v → (i, v) ∈ lv
  | [], i, v, h => by simp [j_g] at h
  | q :: r, i, v, h => by
    unfold j_g at h
    split at h
    · rename_i e
      cases h
      subst e
      exact List.mem_cons_self
    · exact List.mem_cons_of_mem _ (j_g_mem h)
theorem j_at {ad : Nat → Nat} {ls : Array Slot} {n : Nat} {lv : j_L} (h : j_lv ad ls n lv) {i : Nat} {v : Value} (hg : j_g lv i = some v) : ls[i]? = some (.val (j_v ad v)) :=
  h.2.2 (i, j_v ad v) (List.mem_map.mpr ⟨(i, v), j_g_mem hg, rfl⟩)
theorem j_s1_map {ad : Nat → Nat} {i : Nat} {v : Value} {lv : j_L} : (i, j_v ad v) :: (lv.map (fun q => (q.1, j_v ad q.2))).filter (fun q => !(q.1 == i) && !(q.1 + 1 == i && q.2.category == 2)) = (j_s1 i v lv).map (fun q => (q.1, j_v ad q.2)) := by
  unfold j_s1
  rw [List.map_cons, List.filter_map]
  congr 2
  refine List.filter_congr fun q _ => ?_
  simp [j_cat]
theorem j_s2_map {ad : Nat → Nat} {i : Nat} {v : Value} {lv : j_L} : (i, j_v ad v) :: (lv.map (fun q => (q.1, j_v ad q.2))).filter (fun q => !(q.1 == i) && (!(q.1 == i + 1) && !(q.1 + 1 == i && q.2.category == 2))) = (j_s2 i v lv).map (fun q => (q.1, j_v ad q.2)) := by
  unfold j_s2
  rw [List.map_cons, List.filter_map]
  congr 2
  refine List.filter_congr fun q _ => ?_
  simp [j_cat]
/-- fewer locals known -/
theorem rn_sub {l : Launch} {D : va_G} {ad : Nat → Nat} {tc : Nat → ClassId} {L : Nat} {xs : Nat → Int32} {M : j_M} {d lo pc : Nat} {lv lv' : j_L} {st : List Value} {h h' : j_H} {r : Option Value} (hs : ∀ q ∈ lv', q ∈ lv) (k : Rn l D ad tc L xs M d lo pc lv' st h r h') : Rn l D ad tc L xs M d lo pc lv st h r h' :=
  ⟨k.1, fun p e R s m args below meth c H locs cells slots mc ms ls Q hF h1 h2 h3 h4 h5 h6 hl hP hS hQ => k.2 p e R s m args below meth c H locs cells slots mc ms ls Q hF h1 h2 h3 h4 h5 h6 ⟨hl.1, hl.2.1, fun q hq => by
    obtain ⟨q0, hq0, e⟩ := List.mem_map.mp hq
    exact hl.2.2 q (List.mem_map.mpr ⟨q0, hs q0 hq0, e⟩)⟩ hP hS hQ⟩
end
section
section J2
variable {l : Launch} {D : va_G} {ad : Nat → Nat} {tc : Nat → ClassId} {L : Nat} {xs : Nat → Int32} {M : j_M} {d lo pc : Nat} {lv : j_L} {st : List Value} {h h' : j_H} {r : Option Value}
theorem rn_iconst {n : Int} {v : Int32} (hd : decode M.2.1 pc = .ok (.iconst n, 1)) (hv : Int32.ofInt n = v) (k : Rn l D ad tc L xs M d lo (pc + 1) lv (.int v :: st) h r h') : Rn l D ad tc L xs M d lo pc lv (st) h r h' :=
  rn_pure (fun p e R s m args below meth c H locs cells slots ls Q hF hd1 hd2 hl hP hS k => lv_iconst hF.1 hF.2.1 hd hv k) k
theorem rn_bipush {n : Int} {v : Int32} (hd : decode M.2.1 pc = .ok (.bipush n, 2)) (hv : (Int8.ofInt n).toInt32 = v) (k : Rn l D ad tc L xs M d lo (pc + 2) lv (.int v :: st) h r h') : Rn l D ad tc L xs M d lo pc lv (st) h r h' :=
  rn_pure (fun p e R s m args below meth c H locs cells slots ls Q hF hd1 hd2 hl hP hS k => lv_bipush hF.1 hF.2.1 hd hv k) k
theorem rn_sipush {n : Int} {v : Int32} (hd : decode M.2.1 pc = .ok (.sipush n, 3)) (hv : (Int16.ofInt n).toInt32 = v) (k : Rn l D ad tc L xs M d lo (pc + 3) lv (.int v :: st) h r h') : Rn l D ad tc L xs M d lo pc lv (st) h r h' :=
  rn_pure (fun p e R s m args below meth c H locs cells slots ls Q hF hd1 hd2 hl hP hS k => lv_sipush hF.1 hF.2.1 hd hv k) k
theorem rn_lconst {n : Fin 2} {v : Int64} (hd : decode M.2.1 pc = .ok (.lconst n, 1)) (hv : Int64.ofNat (n : Nat) = v) (k : Rn l D ad tc L xs M d lo (pc + 1) lv (.long v :: st) h r h') : Rn l D ad tc L xs M d lo pc lv (st) h r h' :=
  rn_pure (fun p e R s m args below meth c H locs cells slots ls Q hF hd1 hd2 hl hP hS k => lv_lconst hF.1 hF.2.1 hd hv k) k
theorem rn_fconst0  (hd : decode M.2.1 pc = .ok (.fconst 0, 1)) (k : Rn l D ad tc L xs M d lo (pc + 1) lv (.float FP.fconst0 :: st) h r h') : Rn l D ad tc L xs M d lo pc lv (st) h r h' :=
  rn_pure (fun p e R s m args below meth c H locs cells slots ls Q hF hd1 hd2 hl hP hS k => lv_fconst0 hF.1 hF.2.1 hd k) k
theorem rn_fconst1  (hd : decode M.2.1 pc = .ok (.fconst 1, 1)) (k : Rn l D ad tc L xs M d lo (pc + 1) lv (.float FP.fconst1 :: st) h r h') : Rn l D ad tc L xs M d lo pc lv (st) h r h' :=
  rn_pure (fun p e R s m args below meth c H locs cells slots ls Q hF hd1 hd2 hl hP hS k => lv_fconst1 hF.1 hF.2.1 hd k) k
theorem rn_fconst2  (hd : decode M.2.1 pc = .ok (.fconst 2, 1)) (k : Rn l D ad tc L xs M d lo (pc + 1) lv (.float FP.fconst2 :: st) h r h') : Rn l D ad tc L xs M d lo pc lv (st) h r h' :=
  rn_pure (fun p e R s m args below meth c H locs cells slots ls Q hF hd1 hd2 hl hP hS k => lv_fconst2 hF.1 hF.2.1 hd k) k
theorem rn_dconst0  (hd : decode M.2.1 pc = .ok (.dconst 0, 1)) (k : Rn l D ad tc L xs M d lo (pc + 1) lv (.double FP.dconst0 :: st) h r h') : Rn l D ad tc L xs M d lo pc lv (st) h r h' :=
  rn_pure (fun p e R s m args below meth c H locs cells slots ls Q hF hd1 hd2 hl hP hS k => lv_dconst0 hF.1 hF.2.1 hd k) k
theorem rn_dconst1  (hd : decode M.2.1 pc = .ok (.dconst 1, 1)) (k : Rn l D ad tc L xs M d lo (pc + 1) lv (.double FP.dconst1 :: st) h r h') : Rn l D ad tc L xs M d lo pc lv (st) h r h' :=
  rn_pure (fun p e R s m args below meth c H locs cells slots ls Q hF hd1 hd2 hl hP hS k => lv_dconst1 hF.1 hF.2.1 hd k) k
theorem rn_null  (hd : decode M.2.1 pc = .ok (.aconst_null, 1)) (k : Rn l D ad tc L xs M d lo (pc + 1) lv (.null :: st) h r h') : Rn l D ad tc L xs M d lo pc lv (st) h r h' :=
  rn_pure (fun p e R s m args below meth c H locs cells slots ls Q hF hd1 hd2 hl hP hS k => lv_null hF.1 hF.2.1 hd k) k
theorem rn_ldc2d {index : Nat} {v : UInt64} (hd : decode M.2.1 pc = .ok (.ldc2_w index, 3)) (hw : Cond.constantDouble M.1.cls index v ∈ j_all) (k : Rn l D ad tc L xs M d lo (pc + 3) lv (.double v :: st) h r h') : Rn l D ad tc L xs M d lo pc lv (st) h r h' :=
  rn_pure (fun p e R s m args below meth c H locs cells slots ls Q hF hd1 hd2 hl hP hS k => lv_ldc2d hF.1 hF.2.1 hF.2.2.2.1 (hF.2.2.2.2.1 _ hw) hd k) k
theorem rn_ldcf {index : Nat} {v : UInt32} (hd : decode M.2.1 pc = .ok (.ldc index, 2)) (hw : Cond.constantFloat M.1.cls index v ∈ j_all) (k : Rn l D ad tc L xs M d lo (pc + 2) lv (.float v :: st) h r h') : Rn l D ad tc L xs M d lo pc lv (st) h r h' :=
  rn_pure (fun p e R s m args below meth c H locs cells slots ls Q hF hd1 hd2 hl hP hS k => lv_ldcf hF.1 hF.2.1 hF.2.2.2.1 (hF.2.2.2.2.1 _ hw) hd k) k
theorem rn_ldc {index : Nat} {v : Int32} (hd : decode M.2.1 pc = .ok (.ldc index, 2)) (hw : Cond.constant M.1.cls index v ∈ j_all) (k : Rn l D ad tc L xs M d lo (pc + 2) lv (.int v :: st) h r h') : Rn l D ad tc L xs M d lo pc lv (st) h r h' :=
  rn_pure (fun p e R s m args below meth c H locs cells slots ls Q hF hd1 hd2 hl hP hS k => lv_ldc hF.1 hF.2.1 hF.2.2.2.1 (hF.2.2.2.2.1 _ hw) hd k) k
theorem rn_ldcw {index : Nat} {v : Int32} (hd : decode M.2.1 pc = .ok (.ldc_w index, 3)) (hw : Cond.constant M.1.cls index v ∈ j_all) (k : Rn l D ad tc L xs M d lo (pc + 3) lv (.int v :: st) h r h') : Rn l D ad tc L xs M d lo pc lv (st) h r h' :=
  rn_pure (fun p e R s m args below meth c H locs cells slots ls Q hF hd1 hd2 hl hP hS k => lv_ldcw hF.1 hF.2.1 hF.2.2.2.1 (hF.2.2.2.2.1 _ hw) hd k) k
theorem rn_ldc2 {index : Nat} {v : Int64} (hd : decode M.2.1 pc = .ok (.ldc2_w index, 3)) (hw : Cond.constantLong M.1.cls index v ∈ j_all) (k : Rn l D ad tc L xs M d lo (pc + 3) lv (.long v :: st) h r h') : Rn l D ad tc L xs M d lo pc lv (st) h r h' :=
  rn_pure (fun p e R s m args below meth c H locs cells slots ls Q hF hd1 hd2 hl hP hS k => lv_ldc2 hF.1 hF.2.1 hF.2.2.2.1 (hF.2.2.2.2.1 _ hw) hd k) k
theorem rn_iload_n {k0 : Fin 4} {x : Int32} (hd : decode M.2.1 pc = .ok (.iload_n k0, 1)) (hg : j_g lv (k0 : Nat) = some (.int x)) (k : Rn l D ad tc L xs M d lo (pc + 1) lv (.int x :: st) h r h') : Rn l D ad tc L xs M d lo pc lv (st) h r h' :=
  rn_pure (fun p e R s m args below meth c H locs cells slots ls Q hF hd1 hd2 hl hP hS k => lv_iload_n hF.1 hF.2.1 hd rfl (j_at hl hg) k) k
theorem rn_iload {i : Nat} {x : Int32} (hd : decode M.2.1 pc = .ok (.iload i, 2)) (hg : j_g lv i = some (.int x)) (k : Rn l D ad tc L xs M d lo (pc + 2) lv (.int x :: st) h r h') : Rn l D ad tc L xs M d lo pc lv (st) h r h' :=
  rn_pure (fun p e R s m args below meth c H locs cells slots ls Q hF hd1 hd2 hl hP hS k => lv_iload hF.1 hF.2.1 hd (j_at hl hg) k) k
theorem rn_lload_n {k0 : Fin 4} {x : Int64} (hd : decode M.2.1 pc = .ok (.lload_n k0, 1)) (hg : j_g lv (k0 : Nat) = some (.long x)) (k : Rn l D ad tc L xs M d lo (pc + 1) lv (.long x :: st) h r h') : Rn l D ad tc L xs M d lo pc lv (st) h r h' :=
  rn_pure (fun p e R s m args below meth c H locs cells slots ls Q hF hd1 hd2 hl hP hS k => lv_lload_n hF.1 hF.2.1 hd rfl (j_at hl hg) k) k
theorem rn_lload {i : Nat} {x : Int64} (hd : decode M.2.1 pc = .ok (.lload i, 2)) (hg : j_g lv i = some (.long x)) (k : Rn l D ad tc L xs M d lo (pc + 2) lv (.long x :: st) h r h') : Rn l D ad tc L xs M d lo pc lv (st) h r h' :=
  rn_pure (fun p e R s m args below meth c H locs cells slots ls Q hF hd1 hd2 hl hP hS k => lv_lload hF.1 hF.2.1 hd (j_at hl hg) k) k
theorem rn_fload_n {k0 : Fin 4} {x : UInt32} (hd : decode M.2.1 pc = .ok (.fload_n k0, 1)) (hg : j_g lv (k0 : Nat) = some (.float x)) (k : Rn l D ad tc L xs M d lo (pc + 1) lv (.float x :: st) h r h') : Rn l D ad tc L xs M d lo pc lv (st) h r h' :=
  rn_pure (fun p e R s m args below meth c H locs cells slots ls Q hF hd1 hd2 hl hP hS k => lv_fload_n hF.1 hF.2.1 hd rfl (j_at hl hg) k) k
theorem rn_fload {i : Nat} {x : UInt32} (hd : decode M.2.1 pc = .ok (.fload i, 2)) (hg : j_g lv i = some (.float x)) (k : Rn l D ad tc L xs M d lo (pc + 2) lv (.float x :: st) h r h') : Rn l D ad tc L xs M d lo pc lv (st) h r h' :=
  rn_pure (fun p e R s m args below meth c H locs cells slots ls Q hF hd1 hd2 hl hP hS k => lv_fload hF.1 hF.2.1 hd (j_at hl hg) k) k
theorem rn_dload_n {k0 : Fin 4} {x : UInt64} (hd : decode M.2.1 pc = .ok (.dload_n k0, 1)) (hg : j_g lv (k0 : Nat) = some (.double x)) (k : Rn l D ad tc L xs M d lo (pc + 1) lv (.double x :: st) h r h') : Rn l D ad tc L xs M d lo pc lv (st) h r h' :=
  rn_pure (fun p e R s m args below meth c H locs cells slots ls Q hF hd1 hd2 hl hP hS k => lv_dload_n hF.1 hF.2.1 hd rfl (j_at hl hg) k) k
theorem rn_dload {i : Nat} {x : UInt64} (hd : decode M.2.1 pc = .ok (.dload i, 2)) (hg : j_g lv i = some (.double x)) (k : Rn l D ad tc L xs M d lo (pc + 2) lv (.double x :: st) h r h') : Rn l D ad tc L xs M d lo pc lv (st) h r h' :=
  rn_pure (fun p e R s m args below meth c H locs cells slots ls Q hF hd1 hd2 hl hP hS k => lv_dload hF.1 hF.2.1 hd (j_at hl hg) k) k
theorem rn_aload_n {k0 : Fin 4} {x : Nat} (hd : decode M.2.1 pc = .ok (.aload_n k0, 1)) (hg : j_g lv (k0 : Nat) = some (.ref x)) (k : Rn l D ad tc L xs M d lo (pc + 1) lv (.ref x :: st) h r h') : Rn l D ad tc L xs M d lo pc lv (st) h r h' :=
  rn_pure (fun p e R s m args below meth c H locs cells slots ls Q hF hd1 hd2 hl hP hS k => lv_aload_n hF.1 hF.2.1 hd rfl (j_at hl hg) k) k
theorem rn_aload {i : Nat} {x : Nat} (hd : decode M.2.1 pc = .ok (.aload i, 2)) (hg : j_g lv i = some (.ref x)) (k : Rn l D ad tc L xs M d lo (pc + 2) lv (.ref x :: st) h r h') : Rn l D ad tc L xs M d lo pc lv (st) h r h' :=
  rn_pure (fun p e R s m args below meth c H locs cells slots ls Q hF hd1 hd2 hl hP hS k => lv_aload hF.1 hF.2.1 hd (j_at hl hg) k) k
theorem rn_aload_nN {k0 : Fin 4} (hd : decode M.2.1 pc = .ok (.aload_n k0, 1)) (hg : j_g lv (k0 : Nat) = some .null) (k : Rn l D ad tc L xs M d lo (pc + 1) lv (.null :: st) h r h') : Rn l D ad tc L xs M d lo pc lv (st) h r h' :=
  rn_pure (fun p e R s m args below meth c H locs cells slots ls Q hF hd1 hd2 hl hP hS k => lv_aload_nN hF.1 hF.2.1 hd rfl (j_at hl hg) k) k
theorem rn_aloadN {i : Nat} (hd : decode M.2.1 pc = .ok (.aload i, 2)) (hg : j_g lv i = some .null) (k : Rn l D ad tc L xs M d lo (pc + 2) lv (.null :: st) h r h') : Rn l D ad tc L xs M d lo pc lv (st) h r h' :=
  rn_pure (fun p e R s m args below meth c H locs cells slots ls Q hF hd1 hd2 hl hP hS k => lv_aloadN hF.1 hF.2.1 hd (j_at hl hg) k) k
theorem rn_iadd {x y : Int32} (hd : decode M.2.1 pc = .ok (.iadd, 1)) (k : Rn l D ad tc L xs M d lo (pc + 1) lv (.int (x + y) :: st) h r h') : Rn l D ad tc L xs M d lo pc lv (.int y :: .int x :: st) h r h' :=
  rn_pure (fun p e R s m args below meth c H locs cells slots ls Q hF hd1 hd2 hl hP hS k => lv_iadd hF.1 hF.2.1 hd k) k
theorem rn_ladd {x y : Int64} (hd : decode M.2.1 pc = .ok (.ladd, 1)) (k : Rn l D ad tc L xs M d lo (pc + 1) lv (.long (x + y) :: st) h r h') : Rn l D ad tc L xs M d lo pc lv (.long y :: .long x :: st) h r h' :=
  rn_pure (fun p e R s m args below meth c H locs cells slots ls Q hF hd1 hd2 hl hP hS k => lv_ladd hF.1 hF.2.1 hd k) k
theorem rn_isub {x y : Int32} (hd : decode M.2.1 pc = .ok (.isub, 1)) (k : Rn l D ad tc L xs M d lo (pc + 1) lv (.int (x - y) :: st) h r h') : Rn l D ad tc L xs M d lo pc lv (.int y :: .int x :: st) h r h' :=
  rn_pure (fun p e R s m args below meth c H locs cells slots ls Q hF hd1 hd2 hl hP hS k => lv_isub hF.1 hF.2.1 hd k) k
theorem rn_lsub {x y : Int64} (hd : decode M.2.1 pc = .ok (.lsub, 1)) (k : Rn l D ad tc L xs M d lo (pc + 1) lv (.long (x - y) :: st) h r h') : Rn l D ad tc L xs M d lo pc lv (.long y :: .long x :: st) h r h' :=
  rn_pure (fun p e R s m args below meth c H locs cells slots ls Q hF hd1 hd2 hl hP hS k => lv_lsub hF.1 hF.2.1 hd k) k
theorem rn_imul {x y : Int32} (hd : decode M.2.1 pc = .ok (.imul, 1)) (k : Rn l D ad tc L xs M d lo (pc + 1) lv (.int (x * y) :: st) h r h') : Rn l D ad tc L xs M d lo pc lv (.int y :: .int x :: st) h r h' :=
  rn_pure (fun p e R s m args below meth c H locs cells slots ls Q hF hd1 hd2 hl hP hS k => lv_imul hF.1 hF.2.1 hd k) k
theorem rn_lmul {x y : Int64} (hd : decode M.2.1 pc = .ok (.lmul, 1)) (k : Rn l D ad tc L xs M d lo (pc + 1) lv (.long (x * y) :: st) h r h') : Rn l D ad tc L xs M d lo pc lv (.long y :: .long x :: st) h r h' :=
  rn_pure (fun p e R s m args below meth c H locs cells slots ls Q hF hd1 hd2 hl hP hS k => lv_lmul hF.1 hF.2.1 hd k) k
theorem rn_iand {x y : Int32} (hd : decode M.2.1 pc = .ok (.iand, 1)) (k : Rn l D ad tc L xs M d lo (pc + 1) lv (.int (x &&& y) :: st) h r h') : Rn l D ad tc L xs M d lo pc lv (.int y :: .int x :: st) h r h' :=
  rn_pure (fun p e R s m args below meth c H locs cells slots ls Q hF hd1 hd2 hl hP hS k => lv_iand hF.1 hF.2.1 hd k) k
theorem rn_land {x y : Int64} (hd : decode M.2.1 pc = .ok (.land, 1)) (k : Rn l D ad tc L xs M d lo (pc + 1) lv (.long (x &&& y) :: st) h r h') : Rn l D ad tc L xs M d lo pc lv (.long y :: .long x :: st) h r h' :=
  rn_pure (fun p e R s m args below meth c H locs cells slots ls Q hF hd1 hd2 hl hP hS k => lv_land hF.1 hF.2.1 hd k) k
theorem rn_ior {x y : Int32} (hd : decode M.2.1 pc = .ok (.ior, 1)) (k : Rn l D ad tc L xs M d lo (pc + 1) lv (.int (x ||| y) :: st) h r h') : Rn l D ad tc L xs M d lo pc lv (.int y :: .int x :: st) h r h' :=
  rn_pure (fun p e R s m args below meth c H locs cells slots ls Q hF hd1 hd2 hl hP hS k => lv_ior hF.1 hF.2.1 hd k) k
theorem rn_lor {x y : Int64} (hd : decode M.2.1 pc = .ok (.lor, 1)) (k : Rn l D ad tc L xs M d lo (pc + 1) lv (.long (x ||| y) :: st) h r h') : Rn l D ad tc L xs M d lo pc lv (.long y :: .long x :: st) h r h' :=
  rn_pure (fun p e R s m args below meth c H locs cells slots ls Q hF hd1 hd2 hl hP hS k => lv_lor hF.1 hF.2.1 hd k) k
theorem rn_ixor {x y : Int32} (hd : decode M.2.1 pc = .ok (.ixor, 1)) (k : Rn l D ad tc L xs M d lo (pc + 1) lv (.int (x ^^^ y) :: st) h r h') : Rn l D ad tc L xs M d lo pc lv (.int y :: .int x :: st) h r h' :=
  rn_pure (fun p e R s m args below meth c H locs cells slots ls Q hF hd1 hd2 hl hP hS k => lv_ixor hF.1 hF.2.1 hd k) k
theorem rn_lxor {x y : Int64} (hd : decode M.2.1 pc = .ok (.lxor, 1)) (k : Rn l D ad tc L xs M d lo (pc + 1) lv (.long (x ^^^ y) :: st) h r h') : Rn l D ad tc L xs M d lo pc lv (.long y :: .long x :: st) h r h' :=
  rn_pure (fun p e R s m args below meth c H locs cells slots ls Q hF hd1 hd2 hl hP hS k => lv_lxor hF.1 hF.2.1 hd k) k
theorem rn_ineg {x : Int32} (hd : decode M.2.1 pc = .ok (.ineg, 1)) (k : Rn l D ad tc L xs M d lo (pc + 1) lv (.int (-x) :: st) h r h') : Rn l D ad tc L xs M d lo pc lv (.int x :: st) h r h' :=
  rn_pure (fun p e R s m args below meth c H locs cells slots ls Q hF hd1 hd2 hl hP hS k => lv_ineg hF.1 hF.2.1 hd k) k
theorem rn_idiv {x y : Int32} (hd : decode M.2.1 pc = .ok (.idiv, 1)) (hne : ¬ y = 0) (k : Rn l D ad tc L xs M d lo (pc + 1) lv (.int (x / y) :: st) h r h') : Rn l D ad tc L xs M d lo pc lv (.int y :: .int x :: st) h r h' :=
  rn_pure (fun p e R s m args below meth c H locs cells slots ls Q hF hd1 hd2 hl hP hS k => lv_idiv hF.1 hF.2.1 hd hne k) k
theorem rn_irem {x y : Int32} (hd : decode M.2.1 pc = .ok (.irem, 1)) (hne : ¬ y = 0) (k : Rn l D ad tc L xs M d lo (pc + 1) lv (.int (x - x / y * y) :: st) h r h') : Rn l D ad tc L xs M d lo pc lv (.int y :: .int x :: st) h r h' :=
  rn_pure (fun p e R s m args below meth c H locs cells slots ls Q hF hd1 hd2 hl hP hS k => lv_irem hF.1 hF.2.1 hd hne k) k
theorem rn_ishl {x y : Int32} (hd : decode M.2.1 pc = .ok (.ishl, 1)) (k : Rn l D ad tc L xs M d lo (pc + 1) lv (.int (x <<< (y &&& 31)) :: st) h r h') : Rn l D ad tc L xs M d lo pc lv (.int y :: .int x :: st) h r h' :=
  rn_pure (fun p e R s m args below meth c H locs cells slots ls Q hF hd1 hd2 hl hP hS k => lv_ishl hF.1 hF.2.1 hd k) k
theorem rn_ishr {x y : Int32} (hd : decode M.2.1 pc = .ok (.ishr, 1)) (k : Rn l D ad tc L xs M d lo (pc + 1) lv (.int (x >>> (y &&& 31)) :: st) h r h') : Rn l D ad tc L xs M d lo pc lv (.int y :: .int x :: st) h r h' :=
  rn_pure (fun p e R s m args below meth c H locs cells slots ls Q hF hd1 hd2 hl hP hS k => lv_ishr hF.1 hF.2.1 hd k) k
theorem rn_iushr {x y v : Int32} (hd : decode M.2.1 pc = .ok (.iushr, 1)) (hv : (x.toUInt32 >>> (y.toUInt32 &&& Int32.toUInt32 31)).toInt32 = v) (k : Rn l D ad tc L xs M d lo (pc + 1) lv (.int v :: st) h r h') : Rn l D ad tc L xs M d lo pc lv (.int y :: .int x :: st) h r h' :=
  rn_pure (fun p e R s m args below meth c H locs cells slots ls Q hF hd1 hd2 hl hP hS k => lv_iushr hF.1 hF.2.1 hd hv k) k
theorem rn_i2l {x : Int32} {v : Int64} (hd : decode M.2.1 pc = .ok (.i2l, 1)) (hv : x.toInt64 = v) (k : Rn l D ad tc L xs M d lo (pc + 1) lv (.long v :: st) h r h') : Rn l D ad tc L xs M d lo pc lv (.int x :: st) h r h' :=
  rn_pure (fun p e R s m args below meth c H locs cells slots ls Q hF hd1 hd2 hl hP hS k => lv_i2l hF.1 hF.2.1 hd hv k) k
theorem rn_l2i {x : Int64} {v : Int32} (hd : decode M.2.1 pc = .ok (.l2i, 1)) (hv : x.toInt32 = v) (k : Rn l D ad tc L xs M d lo (pc + 1) lv (.int v :: st) h r h') : Rn l D ad tc L xs M d lo pc lv (.long x :: st) h r h' :=
  rn_pure (fun p e R s m args below meth c H locs cells slots ls Q hF hd1 hd2 hl hP hS k => lv_l2i hF.1 hF.2.1 hd hv k) k
theorem rn_lcmp {x y : Int64} (hd : decode M.2.1 pc = .ok (.lcmp, 1)) (k : Rn l D ad tc L xs M d lo (pc + 1) lv (.int (lg_cmp x y) :: st) h r h') : Rn l D ad tc L xs M d lo pc lv (.long y :: .long x :: st) h r h' :=
  rn_pure (fun p e R s m args below meth c H locs cells slots ls Q hF hd1 hd2 hl hP hS k => W.lcmp hF.1 hF.2.1 hd k) k
theorem rn_dup {a : Value} (hd : decode M.2.1 pc = .ok (.dup, 1)) (ha : a.category = 1) (k : Rn l D ad tc L xs M d lo (pc + 1) lv (a :: a :: st) h r h') : Rn l D ad tc L xs M d lo pc lv (a :: st) h r h' :=
  rn_pure (fun p e R s m args below meth c H locs cells slots ls Q hF hd1 hd2 hl hP hS k => lv_dup hF.1 hF.2.1 hd (by rw [j_cat]; exact ha) k) k
theorem rn_pop {a : Value} (hd : decode M.2.1 pc = .ok (.pop, 1)) (ha : a.category = 1) (k : Rn l D ad tc L xs M d lo (pc + 1) lv (st) h r h') : Rn l D ad tc L xs M d lo pc lv (a :: st) h r h' :=
  rn_pure (fun p e R s m args below meth c H locs cells slots ls Q hF hd1 hd2 hl hP hS k => lv_pop hF.1 hF.2.1 hd (by rw [j_cat]; exact ha) k) k
theorem rn_pop2 {a : Value} (hd : decode M.2.1 pc = .ok (.pop2, 1)) (ha : a.category = 2) (k : Rn l D ad tc L xs M d lo (pc + 1) lv (st) h r h') : Rn l D ad tc L xs M d lo pc lv (a :: st) h r h' :=
  rn_pure (fun p e R s m args below meth c H locs cells slots ls Q hF hd1 hd2 hl hP hS k => lv_pop2_2 hF.1 hF.2.1 hd (by rw [j_cat]; exact ha) k) k
theorem rn_dup_x1 {a b : Value} (hd : decode M.2.1 pc = .ok (.dup_x1, 1)) (ha : a.category = 1) (hb : b.category = 1) (k : Rn l D ad tc L xs M d lo (pc + 1) lv (a :: b :: a :: st) h r h') : Rn l D ad tc L xs M d lo pc lv (a :: b :: st) h r h' :=
  rn_pure (fun p e R s m args below meth c H locs cells slots ls Q hF hd1 hd2 hl hP hS k => lv_dup_x1 hF.1 hF.2.1 hd (by rw [j_cat]; exact ha) (by rw [j_cat]; exact hb) k) k
theorem rn_dup_x2 {a b c : Value} (hd : decode M.2.1 pc = .ok (.dup_x2, 1)) (ha : a.category = 1) (hb : b.category = 1) (hc : c.category = 1) (k : Rn l D ad tc L xs M d lo (pc + 1) lv (a :: b :: c :: a :: st) h r h') : Rn l D ad tc L xs M d lo pc lv (a :: b :: c :: st) h r h' :=
  rn_pure (fun p e R s m args below meth c H locs cells slots ls Q hF hd1 hd2 hl hP hS k => lv_dup_x2 hF.1 hF.2.1 hd (by rw [j_cat]; exact ha) (by rw [j_cat]; exact hb) (by rw [j_cat]; exact hc) k) k
theorem rn_dup2 {a b : Value} (hd : decode M.2.1 pc = .ok (.dup2, 1)) (ha : a.category = 1) (hb : b.category = 1) (k : Rn l D ad tc L xs M d lo (pc + 1) lv (a :: b :: a :: b :: st) h r h') : Rn l D ad tc L xs M d lo pc lv (a :: b :: st) h r h' :=
  rn_pure (fun p e R s m args below meth c H locs cells slots ls Q hF hd1 hd2 hl hP hS k => lv_dup2_11 hF.1 hF.2.1 hd (by rw [j_cat]; exact ha) (by rw [j_cat]; exact hb) k) k
theorem rn_dup2_2 {a : Value} (hd : decode M.2.1 pc = .ok (.dup2, 1)) (ha : a.category = 2) (k : Rn l D ad tc L xs M d lo (pc + 1) lv (a :: a :: st) h r h') : Rn l D ad tc L xs M d lo pc lv (a :: st) h r h' :=
  rn_pure (fun p e R s m args below meth c H locs cells slots ls Q hF hd1 hd2 hl hP hS k => lv_dup2_2 hF.1 hF.2.1 hd (by rw [j_cat]; exact ha) k) k
theorem rn_fadd {x y : UInt32} (hd : decode M.2.1 pc = .ok (.fadd, 1)) (hne : vf_n32 (FP.fadd x y)) (k : Rn l D ad tc L xs M d lo (pc + 1) lv (.float (FP.fadd x y) :: st) h r h') : Rn l D ad tc L xs M d lo pc lv (.float y :: .float x :: st) h r h' :=
  rn_pure (fun p e R s m args below meth c H locs cells slots ls Q hF hd1 hd2 hl hP hS k => lv_fadd hF.1 hF.2.1 hd hne k) k
theorem rn_fsub {x y : UInt32} (hd : decode M.2.1 pc = .ok (.fsub, 1)) (hne : vf_n32 (FP.fsub x y)) (k : Rn l D ad tc L xs M d lo (pc + 1) lv (.float (FP.fsub x y) :: st) h r h') : Rn l D ad tc L xs M d lo pc lv (.float y :: .float x :: st) h r h' :=
  rn_pure (fun p e R s m args below meth c H locs cells slots ls Q hF hd1 hd2 hl hP hS k => lv_fsub hF.1 hF.2.1 hd hne k) k
theorem rn_fmul {x y : UInt32} (hd : decode M.2.1 pc = .ok (.fmul, 1)) (hne : vf_n32 (FP.fmul x y)) (k : Rn l D ad tc L xs M d lo (pc + 1) lv (.float (FP.fmul x y) :: st) h r h') : Rn l D ad tc L xs M d lo pc lv (.float y :: .float x :: st) h r h' :=
  rn_pure (fun p e R s m args below meth c H locs cells slots ls Q hF hd1 hd2 hl hP hS k => lv_fmul hF.1 hF.2.1 hd hne k) k
theorem rn_fdiv {x y : UInt32} (hd : decode M.2.1 pc = .ok (.fdiv, 1)) (hne : vf_n32 (FP.fdiv x y)) (k : Rn l D ad tc L xs M d lo (pc + 1) lv (.float (FP.fdiv x y) :: st) h r h') : Rn l D ad tc L xs M d lo pc lv (.float y :: .float x :: st) h r h' :=
  rn_pure (fun p e R s m args below meth c H locs cells slots ls Q hF hd1 hd2 hl hP hS k => lv_fdiv hF.1 hF.2.1 hd hne k) k
theorem rn_fneg {x : UInt32} (hd : decode M.2.1 pc = .ok (.fneg, 1)) (k : Rn l D ad tc L xs M d lo (pc + 1) lv (.float (FP.fneg x) :: st) h r h') : Rn l D ad tc L xs M d lo pc lv (.float x :: st) h r h' :=
  rn_pure (fun p e R s m args below meth c H locs cells slots ls Q hF hd1 hd2 hl hP hS k => lv_fneg hF.1 hF.2.1 hd k) k
theorem rn_fcmp {x y : UInt32} {op : CmpOp} (hd : decode M.2.1 pc = .ok (.fcmp op, 1)) (k : Rn l D ad tc L xs M d lo (pc + 1) lv (.int (Op.cmpValue (FP.fcmp x y) op) :: st) h r h') : Rn l D ad tc L xs M d lo pc lv (.float y :: .float x :: st) h r h' :=
  rn_pure (fun p e R s m args below meth c H locs cells slots ls Q hF hd1 hd2 hl hP hS k => lv_fcmp hF.1 hF.2.1 hd k) k
theorem rn_dadd {x y : UInt64} (hd : decode M.2.1 pc = .ok (.dadd, 1)) (hne : vf_n64 (FP.dadd x y)) (k : Rn l D ad tc L xs M d lo (pc + 1) lv (.double (FP.dadd x y) :: st) h r h') : Rn l D ad tc L xs M d lo pc lv (.double y :: .double x :: st) h r h' :=
  rn_pure (fun p e R s m args below meth c H locs cells slots ls Q hF hd1 hd2 hl hP hS k => lv_dadd hF.1 hF.2.1 hd hne k) k
theorem rn_dsub {x y : UInt64} (hd : decode M.2.1 pc = .ok (.dsub, 1)) (hne : vf_n64 (FP.dsub x y)) (k : Rn l D ad tc L xs M d lo (pc + 1) lv (.double (FP.dsub x y) :: st) h r h') : Rn l D ad tc L xs M d lo pc lv (.double y :: .double x :: st) h r h' :=
  rn_pure (fun p e R s m args below meth c H locs cells slots ls Q hF hd1 hd2 hl hP hS k => lv_dsub hF.1 hF.2.1 hd hne k) k
theorem rn_dmul {x y : UInt64} (hd : decode M.2.1 pc = .ok (.dmul, 1)) (hne : vf_n64 (FP.dmul x y)) (k : Rn l D ad tc L xs M d lo (pc + 1) lv (.double (FP.dmul x y) :: st) h r h') : Rn l D ad tc L xs M d lo pc lv (.double y :: .double x :: st) h r h' :=
  rn_pure (fun p e R s m args below meth c H locs cells slots ls Q hF hd1 hd2 hl hP hS k => lv_dmul hF.1 hF.2.1 hd hne k) k
theorem rn_ddiv {x y : UInt64} (hd : decode M.2.1 pc = .ok (.ddiv, 1)) (hne : vf_n64 (FP.ddiv x y)) (k : Rn l D ad tc L xs M d lo (pc + 1) lv (.double (FP.ddiv x y) :: st) h r h') : Rn l D ad tc L xs M d lo pc lv (.double y :: .double x :: st) h r h' :=
  rn_pure (fun p e R s m args below meth c H locs cells slots ls Q hF hd1 hd2 hl hP hS k => lv_ddiv hF.1 hF.2.1 hd hne k) k
theorem rn_dneg {x : UInt64} (hd : decode M.2.1 pc = .ok (.dneg, 1)) (k : Rn l D ad tc L xs M d lo (pc + 1) lv (.double (FP.dneg x) :: st) h r h') : Rn l D ad tc L xs M d lo pc lv (.double x :: st) h r h' :=
  rn_pure (fun p e R s m args below meth c H locs cells slots ls Q hF hd1 hd2 hl hP hS k => lv_dneg hF.1 hF.2.1 hd k) k
theorem rn_dcmp {x y : UInt64} {op : CmpOp} (hd : decode M.2.1 pc = .ok (.dcmp op, 1)) (k : Rn l D ad tc L xs M d lo (pc + 1) lv (.int (Op.cmpValue (FP.dcmp x y) op) :: st) h r h') : Rn l D ad tc L xs M d lo pc lv (.double y :: .double x :: st) h r h' :=
  rn_pure (fun p e R s m args below meth c H locs cells slots ls Q hF hd1 hd2 hl hP hS k => lv_dcmp hF.1 hF.2.1 hd k) k
theorem rn_i2f {x : Int32} (hd : decode M.2.1 pc = .ok (.i2f, 1)) (k : Rn l D ad tc L xs M d lo (pc + 1) lv (.float (FP.i2f x) :: st) h r h') : Rn l D ad tc L xs M d lo pc lv (.int x :: st) h r h' :=
  rn_pure (fun p e R s m args below meth c H locs cells slots ls Q hF hd1 hd2 hl hP hS k => lv_i2f hF.1 hF.2.1 hd k) k
theorem rn_i2d {x : Int32} (hd : decode M.2.1 pc = .ok (.i2d, 1)) (k : Rn l D ad tc L xs M d lo (pc + 1) lv (.double (FP.i2d x) :: st) h r h') : Rn l D ad tc L xs M d lo pc lv (.int x :: st) h r h' :=
  rn_pure (fun p e R s m args below meth c H locs cells slots ls Q hF hd1 hd2 hl hP hS k => lv_i2d hF.1 hF.2.1 hd k) k
theorem rn_f2i {x : UInt32} (hd : decode M.2.1 pc = .ok (.f2i, 1)) (k : Rn l D ad tc L xs M d lo (pc + 1) lv (.int (FP.f2i x) :: st) h r h') : Rn l D ad tc L xs M d lo pc lv (.float x :: st) h r h' :=
  rn_pure (fun p e R s m args below meth c H locs cells slots ls Q hF hd1 hd2 hl hP hS k => lv_f2i hF.1 hF.2.1 hd k) k
theorem rn_f2l {x : UInt32} (hd : decode M.2.1 pc = .ok (.f2l, 1)) (k : Rn l D ad tc L xs M d lo (pc + 1) lv (.long (FP.f2l x) :: st) h r h') : Rn l D ad tc L xs M d lo pc lv (.float x :: st) h r h' :=
  rn_pure (fun p e R s m args below meth c H locs cells slots ls Q hF hd1 hd2 hl hP hS k => lv_f2l hF.1 hF.2.1 hd k) k
theorem rn_d2l {x : UInt64} (hd : decode M.2.1 pc = .ok (.d2l, 1)) (k : Rn l D ad tc L xs M d lo (pc + 1) lv (.long (FP.d2l x) :: st) h r h') : Rn l D ad tc L xs M d lo pc lv (.double x :: st) h r h' :=
  rn_pure (fun p e R s m args below meth c H locs cells slots ls Q hF hd1 hd2 hl hP hS k => lv_d2l hF.1 hF.2.1 hd k) k
theorem rn_f2d {x : UInt32} (hd : decode M.2.1 pc = .ok (.f2d, 1)) (hne : vf_n64 (FP.f2d x)) (k : Rn l D ad tc L xs M d lo (pc + 1) lv (.double (FP.f2d x) :: st) h r h') : Rn l D ad tc L xs M d lo pc lv (.float x :: st) h r h' :=
  rn_pure (fun p e R s m args below meth c H locs cells slots ls Q hF hd1 hd2 hl hP hS k => lv_f2d hF.1 hF.2.1 hd hne k) k
theorem rn_goto {off : Int} {tgt : Nat} (hd : decode M.2.1 pc = .ok (.goto off, 3)) (ht : (pc : Int) + off = (tgt : Int)) (k : Rn l D ad tc L xs M d lo tgt lv (st) h r h') : Rn l D ad tc L xs M d lo pc lv (st) h r h' :=
  rn_pure (fun p e R s m args below meth c H locs cells slots ls Q hF hd1 hd2 hl hP hS k => lv_goto hF.1 hF.2.1 hd ht k) k
theorem rn_ifnull {x : Nat} {off : Int} (hd : decode M.2.1 pc = .ok (.ifnull off, 3)) (k : Rn l D ad tc L xs M d lo (pc + 3) lv (st) h r h') : Rn l D ad tc L xs M d lo pc lv (.ref x :: st) h r h' :=
  rn_pure (fun p e R s m args below meth c H locs cells slots ls Q hF hd1 hd2 hl hP hS k => lv_ifnull hF.1 hF.2.1 hd k) k
theorem rn_ifnullN {off : Int} {tgt : Nat} (hd : decode M.2.1 pc = .ok (.ifnull off, 3)) (ht : (pc : Int) + off = (tgt : Int)) (k : Rn l D ad tc L xs M d lo tgt lv (st) h r h') : Rn l D ad tc L xs M d lo pc lv (.null :: st) h r h' :=
  rn_pure (fun p e R s m args below meth c H locs cells slots ls Q hF hd1 hd2 hl hP hS k => lv_ifnullN hF.1 hF.2.1 hd ht k) k
theorem rn_ifnonnull {x : Nat} {off : Int} {tgt : Nat} (hd : decode M.2.1 pc = .ok (.ifnonnull off, 3)) (ht : (pc : Int) + off = (tgt : Int)) (k : Rn l D ad tc L xs M d lo tgt lv (st) h r h') : Rn l D ad tc L xs M d lo pc lv (.ref x :: st) h r h' :=
  rn_pure (fun p e R s m args below meth c H locs cells slots ls Q hF hd1 hd2 hl hP hS k => lv_ifnonnull hF.1 hF.2.1 hd ht k) k
theorem rn_ifnonnullN {off : Int} (hd : decode M.2.1 pc = .ok (.ifnonnull off, 3)) (k : Rn l D ad tc L xs M d lo (pc + 3) lv (st) h r h') : Rn l D ad tc L xs M d lo pc lv (.null :: st) h r h' :=
  rn_pure (fun p e R s m args below meth c H locs cells slots ls Q hF hd1 hd2 hl hP hS k => lv_ifnonnullN hF.1 hF.2.1 hd k) k
theorem rn_if_eq {x : Int32} {off : Int} {tgt : Nat} (hd : decode M.2.1 pc = .ok (.ifCond .eq off, 3)) (ht : (pc : Int) + off = (tgt : Int)) (kt : x = 0 → Rn l D ad tc L xs M d lo tgt lv (st) h r h') (kf : ¬ x = 0 → Rn l D ad tc L xs M d lo (pc + 3) lv (st) h r h') : Rn l D ad tc L xs M d lo pc lv (.int x :: st) h r h' := by
  refine ⟨?_, fun p e R s m args below meth c H locs cells slots mc ms ls Q hF h1 h2 h3 h4 h5 h6 hl hP hS hQ => lv_if_eq hF.1 hF.2.1 hd ht (fun q => (kt q).2 p e R s m args below meth c H locs cells slots mc ms ls Q hF h1 h2 h3 h4 h5 h6 hl hP hS hQ) (fun q => (kf q).2 p e R s m args below meth c H locs cells slots mc ms ls Q hF h1 h2 h3 h4 h5 h6 hl hP hS hQ)⟩
  by_cases q : x = 0
  · exact (kt q).1
  · exact (kf (by first | exact q | exact fun z => q z | exact Decidable.not_not.mp q)).1
theorem rn_icmp_eq {x y : Int32} {off : Int} {tgt : Nat} (hd : decode M.2.1 pc = .ok (.if_icmp .eq off, 3)) (ht : (pc : Int) + off = (tgt : Int)) (kt : x = y → Rn l D ad tc L xs M d lo tgt lv (st) h r h') (kf : ¬ x = y → Rn l D ad tc L xs M d lo (pc + 3) lv (st) h r h') : Rn l D ad tc L xs M d lo pc lv (.int y :: .int x :: st) h r h' := by
  refine ⟨?_, fun p e R s m args below meth c H locs cells slots mc ms ls Q hF h1 h2 h3 h4 h5 h6 hl hP hS hQ => lv_icmp_eq hF.1 hF.2.1 hd ht (fun q => (kt q).2 p e R s m args below meth c H locs cells slots mc ms ls Q hF h1 h2 h3 h4 h5 h6 hl hP hS hQ) (fun q => (kf q).2 p e R s m args below meth c H locs cells slots mc ms ls Q hF h1 h2 h3 h4 h5 h6 hl hP hS hQ)⟩
  by_cases q : x = y
  · exact (kt q).1
  · exact (kf (by first | exact q | exact fun z => q z | exact Decidable.not_not.mp q)).1
theorem rn_if_ne {x : Int32} {off : Int} {tgt : Nat} (hd : decode M.2.1 pc = .ok (.ifCond .ne off, 3)) (ht : (pc : Int) + off = (tgt : Int)) (kt : ¬ x = 0 → Rn l D ad tc L xs M d lo tgt lv (st) h r h') (kf : x = 0 → Rn l D ad tc L xs M d lo (pc + 3) lv (st) h r h') : Rn l D ad tc L xs M d lo pc lv (.int x :: st) h r h' := by
  refine ⟨?_, fun p e R s m args below meth c H locs cells slots mc ms ls Q hF h1 h2 h3 h4 h5 h6 hl hP hS hQ => lv_if_ne hF.1 hF.2.1 hd ht (fun q => (kt q).2 p e R s m args below meth c H locs cells slots mc ms ls Q hF h1 h2 h3 h4 h5 h6 hl hP hS hQ) (fun q => (kf q).2 p e R s m args below meth c H locs cells slots mc ms ls Q hF h1 h2 h3 h4 h5 h6 hl hP hS hQ)⟩
  by_cases q : ¬ x = 0
  · exact (kt q).1
  · exact (kf (by first | exact q | exact fun z => q z | exact Decidable.not_not.mp q)).1
theorem rn_icmp_ne {x y : Int32} {off : Int} {tgt : Nat} (hd : decode M.2.1 pc = .ok (.if_icmp .ne off, 3)) (ht : (pc : Int) + off = (tgt : Int)) (kt : ¬ x = y → Rn l D ad tc L xs M d lo tgt lv (st) h r h') (kf : x = y → Rn l D ad tc L xs M d lo (pc + 3) lv (st) h r h') : Rn l D ad tc L xs M d lo pc lv (.int y :: .int x :: st) h r h' := by
  refine ⟨?_, fun p e R s m args below meth c H locs cells slots mc ms ls Q hF h1 h2 h3 h4 h5 h6 hl hP hS hQ => lv_icmp_ne hF.1 hF.2.1 hd ht (fun q => (kt q).2 p e R s m args below meth c H locs cells slots mc ms ls Q hF h1 h2 h3 h4 h5 h6 hl hP hS hQ) (fun q => (kf q).2 p e R s m args below meth c H locs cells slots mc ms ls Q hF h1 h2 h3 h4 h5 h6 hl hP hS hQ)⟩
  by_cases q : ¬ x = y
  · exact (kt q).1
  · exact (kf (by first | exact q | exact fun z => q z | exact Decidable.not_not.mp q)).1
theorem rn_if_lt {x : Int32} {off : Int} {tgt : Nat} (hd : decode M.2.1 pc = .ok (.ifCond .lt off, 3)) (ht : (pc : Int) + off = (tgt : Int)) (kt : x < 0 → Rn l D ad tc L xs M d lo tgt lv (st) h r h') (kf : ¬ x < 0 → Rn l D ad tc L xs M d lo (pc + 3) lv (st) h r h') : Rn l D ad tc L xs M d lo pc lv (.int x :: st) h r h' := by
  refine ⟨?_, fun p e R s m args below meth c H locs cells slots mc ms ls Q hF h1 h2 h3 h4 h5 h6 hl hP hS hQ => lv_if_lt hF.1 hF.2.1 hd ht (fun q => (kt q).2 p e R s m args below meth c H locs cells slots mc ms ls Q hF h1 h2 h3 h4 h5 h6 hl hP hS hQ) (fun q => (kf q).2 p e R s m args below meth c H locs cells slots mc ms ls Q hF h1 h2 h3 h4 h5 h6 hl hP hS hQ)⟩
  by_cases q : x < 0
  · exact (kt q).1
  · exact (kf (by first | exact q | exact fun z => q z | exact Decidable.not_not.mp q)).1
theorem rn_icmp_lt {x y : Int32} {off : Int} {tgt : Nat} (hd : decode M.2.1 pc = .ok (.if_icmp .lt off, 3)) (ht : (pc : Int) + off = (tgt : Int)) (kt : x < y → Rn l D ad tc L xs M d lo tgt lv (st) h r h') (kf : ¬ x < y → Rn l D ad tc L xs M d lo (pc + 3) lv (st) h r h') : Rn l D ad tc L xs M d lo pc lv (.int y :: .int x :: st) h r h' := by
  refine ⟨?_, fun p e R s m args below meth c H locs cells slots mc ms ls Q hF h1 h2 h3 h4 h5 h6 hl hP hS hQ => lv_icmp_lt hF.1 hF.2.1 hd ht (fun q => (kt q).2 p e R s m args below meth c H locs cells slots mc ms ls Q hF h1 h2 h3 h4 h5 h6 hl hP hS hQ) (fun q => (kf q).2 p e R s m args below meth c H locs cells slots mc ms ls Q hF h1 h2 h3 h4 h5 h6 hl hP hS hQ)⟩
  by_cases q : x < y
  · exact (kt q).1
  · exact (kf (by first | exact q | exact fun z => q z | exact Decidable.not_not.mp q)).1
theorem rn_if_ge {x : Int32} {off : Int} {tgt : Nat} (hd : decode M.2.1 pc = .ok (.ifCond .ge off, 3)) (ht : (pc : Int) + off = (tgt : Int)) (kt : 0 ≤ x → Rn l D ad tc L xs M d lo tgt lv (st) h r h') (kf : ¬ 0 ≤ x → Rn l D ad tc L xs M d lo (pc + 3) lv (st) h r h') : Rn l D ad tc L xs M d lo pc lv (.int x :: st) h r h' := by
  refine ⟨?_, fun p e R s m args below meth c H locs cells slots mc ms ls Q hF h1 h2 h3 h4 h5 h6 hl hP hS hQ => lv_if_ge hF.1 hF.2.1 hd ht (fun q => (kt q).2 p e R s m args below meth c H locs cells slots mc ms ls Q hF h1 h2 h3 h4 h5 h6 hl hP hS hQ) (fun q => (kf q).2 p e R s m args below meth c H locs cells slots mc ms ls Q hF h1 h2 h3 h4 h5 h6 hl hP hS hQ)⟩
  by_cases q : 0 ≤ x
  · exact (kt q).1
  · exact (kf (by first | exact q | exact fun z => q z | exact Decidable.not_not.mp q)).1
theorem rn_icmp_ge {x y : Int32} {off : Int} {tgt : Nat} (hd : decode M.2.1 pc = .ok (.if_icmp .ge off, 3)) (ht : (pc : Int) + off = (tgt : Int)) (kt : y ≤ x → Rn l D ad tc L xs M d lo tgt lv (st) h r h') (kf : ¬ y ≤ x → Rn l D ad tc L xs M d lo (pc + 3) lv (st) h r h') : Rn l D ad tc L xs M d lo pc lv (.int y :: .int x :: st) h r h' := by
  refine ⟨?_, fun p e R s m args below meth c H locs cells slots mc ms ls Q hF h1 h2 h3 h4 h5 h6 hl hP hS hQ => lv_icmp_ge hF.1 hF.2.1 hd ht (fun q => (kt q).2 p e R s m args below meth c H locs cells slots mc ms ls Q hF h1 h2 h3 h4 h5 h6 hl hP hS hQ) (fun q => (kf q).2 p e R s m args below meth c H locs cells slots mc ms ls Q hF h1 h2 h3 h4 h5 h6 hl hP hS hQ)⟩
  by_cases q : y ≤ x
  · exact (kt q).1
  · exact (kf (by first | exact q | exact fun z => q z | exact Decidable.not_not.mp q)).1
theorem rn_if_gt {x : Int32} {off : Int} {tgt : Nat} (hd : decode M.2.1 pc = .ok (.ifCond .gt off, 3)) (ht : (pc : Int) + off = (tgt : Int)) (kt : 0 < x → Rn l D ad tc L xs M d lo tgt lv (st) h r h') (kf : ¬ 0 < x → Rn l D ad tc L xs M d lo (pc + 3) lv (st) h r h') : Rn l D ad tc L xs M d lo pc lv (.int x :: st) h r h' := by
  refine ⟨?_, fun p e R s m args below meth c H locs cells slots mc ms ls Q hF h1 h2 h3 h4 h5 h6 hl hP hS hQ => lv_if_gt hF.1 hF.2.1 hd ht (fun q => (kt q).2 p e R s m args below meth c H locs cells slots mc ms ls Q hF h1 h2 h3 h4 h5 h6 hl hP hS hQ) (fun q => (kf q).2 p e R s m args below meth c H locs cells slots mc ms ls Q hF h1 h2 h3 h4 h5 h6 hl hP hS hQ)⟩
  by_cases q : 0 < x
  · exact (kt q).1
  · exact (kf (by first | exact q | exact fun z => q z | exact Decidable.not_not.mp q)).1
theorem rn_icmp_gt {x y : Int32} {off : Int} {tgt : Nat} (hd : decode M.2.1 pc = .ok (.if_icmp .gt off, 3)) (ht : (pc : Int) + off = (tgt : Int)) (kt : y < x → Rn l D ad tc L xs M d lo tgt lv (st) h r h') (kf : ¬ y < x → Rn l D ad tc L xs M d lo (pc + 3) lv (st) h r h') : Rn l D ad tc L xs M d lo pc lv (.int y :: .int x :: st) h r h' := by
  refine ⟨?_, fun p e R s m args below meth c H locs cells slots mc ms ls Q hF h1 h2 h3 h4 h5 h6 hl hP hS hQ => lv_icmp_gt hF.1 hF.2.1 hd ht (fun q => (kt q).2 p e R s m args below meth c H locs cells slots mc ms ls Q hF h1 h2 h3 h4 h5 h6 hl hP hS hQ) (fun q => (kf q).2 p e R s m args below meth c H locs cells slots mc ms ls Q hF h1 h2 h3 h4 h5 h6 hl hP hS hQ)⟩
  by_cases q : y < x
  · exact (kt q).1
  · exact (kf (by first | exact q | exact fun z => q z | exact Decidable.not_not.mp q)).1
theorem rn_if_le {x : Int32} {off : Int} {tgt : Nat} (hd : decode M.2.1 pc = .ok (.ifCond .le off, 3)) (ht : (pc : Int) + off = (tgt : Int)) (kt : x ≤ 0 → Rn l D ad tc L xs M d lo tgt lv (st) h r h') (kf : ¬ x ≤ 0 → Rn l D ad tc L xs M d lo (pc + 3) lv (st) h r h') : Rn l D ad tc L xs M d lo pc lv (.int x :: st) h r h' := by
  refine ⟨?_, fun p e R s m args below meth c H locs cells slots mc ms ls Q hF h1 h2 h3 h4 h5 h6 hl hP hS hQ => lv_if_le hF.1 hF.2.1 hd ht (fun q => (kt q).2 p e R s m args below meth c H locs cells slots mc ms ls Q hF h1 h2 h3 h4 h5 h6 hl hP hS hQ) (fun q => (kf q).2 p e R s m args below meth c H locs cells slots mc ms ls Q hF h1 h2 h3 h4 h5 h6 hl hP hS hQ)⟩
  by_cases q : x ≤ 0
  · exact (kt q).1
  · exact (kf (by first | exact q | exact fun z => q z | exact Decidable.not_not.mp q)).1
theorem rn_icmp_le {x y : Int32} {off : Int} {tgt : Nat} (hd : decode M.2.1 pc = .ok (.if_icmp .le off, 3)) (ht : (pc : Int) + off = (tgt : Int)) (kt : x ≤ y → Rn l D ad tc L xs M d lo tgt lv (st) h r h') (kf : ¬ x ≤ y → Rn l D ad tc L xs M d lo (pc + 3) lv (st) h r h') : Rn l D ad tc L xs M d lo pc lv (.int y :: .int x :: st) h r h' := by
  refine ⟨?_, fun p e R s m args below meth c H locs cells slots mc ms ls Q hF h1 h2 h3 h4 h5 h6 hl hP hS hQ => lv_icmp_le hF.1 hF.2.1 hd ht (fun q => (kt q).2 p e R s m args below meth c H locs cells slots mc ms ls Q hF h1 h2 h3 h4 h5 h6 hl hP hS hQ) (fun q => (kf q).2 p e R s m args below meth c H locs cells slots mc ms ls Q hF h1 h2 h3 h4 h5 h6 hl hP hS hQ)⟩
  by_cases q : x ≤ y
  · exact (kt q).1
  · exact (kf (by first | exact q | exact fun z => q z | exact Decidable.not_not.mp q)).1
theorem rn_istore_n {k0 : Fin 4} {x : Int32} {lv' : j_L} (hd : decode M.2.1 pc = .ok (.istore_n k0, 1)) (hn : (k0 : Nat) < M.2.2.1) (hl' : j_s1 (k0 : Nat) (.int x) lv = lv') (k : Rn l D ad tc L xs M d lo (pc + 1) lv' (st) h r h') : Rn l D ad tc L xs M d lo pc lv (.int x :: st) h r h' :=
  rn_loc (lv' := lv') (pc' := pc + 1) (st' := st) (fun p e R s m args below meth c H locs cells slots ls Q hF hl k => lv_istore_n (lv' := (lv'.map (fun q : Nat × Value => (q.1, j_v ad q.2)))) hF.1 hF.2.1 hd rfl hl hn (by rw [← hl']; exact j_s1_map (ad := ad) (v := .int x)) k) k
theorem rn_istore {i : Nat} {x : Int32} {lv' : j_L} (hd : decode M.2.1 pc = .ok (.istore i, 2)) (hn : i < M.2.2.1) (hl' : j_s1 i (.int x) lv = lv') (k : Rn l D ad tc L xs M d lo (pc + 2) lv' (st) h r h') : Rn l D ad tc L xs M d lo pc lv (.int x :: st) h r h' :=
  rn_loc (lv' := lv') (pc' := pc + 2) (st' := st) (fun p e R s m args below meth c H locs cells slots ls Q hF hl k => lv_istore (lv' := (lv'.map (fun q : Nat × Value => (q.1, j_v ad q.2)))) hF.1 hF.2.1 hd hl hn (by rw [← hl']; exact j_s1_map (ad := ad) (v := .int x)) k) k
theorem rn_fstore_n {k0 : Fin 4} {x : UInt32} {lv' : j_L} (hd : decode M.2.1 pc = .ok (.fstore_n k0, 1)) (hn : (k0 : Nat) < M.2.2.1) (hl' : j_s1 (k0 : Nat) (.float x) lv = lv') (k : Rn l D ad tc L xs M d lo (pc + 1) lv' (st) h r h') : Rn l D ad tc L xs M d lo pc lv (.float x :: st) h r h' :=
  rn_loc (lv' := lv') (pc' := pc + 1) (st' := st) (fun p e R s m args below meth c H locs cells slots ls Q hF hl k => lv_fstore_n (lv' := (lv'.map (fun q : Nat × Value => (q.1, j_v ad q.2)))) hF.1 hF.2.1 hd rfl hl hn (by rw [← hl']; exact j_s1_map (ad := ad) (v := .float x)) k) k
theorem rn_fstore {i : Nat} {x : UInt32} {lv' : j_L} (hd : decode M.2.1 pc = .ok (.fstore i, 2)) (hn : i < M.2.2.1) (hl' : j_s1 i (.float x) lv = lv') (k : Rn l D ad tc L xs M d lo (pc + 2) lv' (st) h r h') : Rn l D ad tc L xs M d lo pc lv (.float x :: st) h r h' :=
  rn_loc (lv' := lv') (pc' := pc + 2) (st' := st) (fun p e R s m args below meth c H locs cells slots ls Q hF hl k => lv_fstore (lv' := (lv'.map (fun q : Nat × Value => (q.1, j_v ad q.2)))) hF.1 hF.2.1 hd hl hn (by rw [← hl']; exact j_s1_map (ad := ad) (v := .float x)) k) k
theorem rn_astore_n {k0 : Fin 4} {x : Nat} {lv' : j_L} (hd : decode M.2.1 pc = .ok (.astore_n k0, 1)) (hn : (k0 : Nat) < M.2.2.1) (hl' : j_s1 (k0 : Nat) (.ref x) lv = lv') (k : Rn l D ad tc L xs M d lo (pc + 1) lv' (st) h r h') : Rn l D ad tc L xs M d lo pc lv (.ref x :: st) h r h' :=
  rn_loc (lv' := lv') (pc' := pc + 1) (st' := st) (fun p e R s m args below meth c H locs cells slots ls Q hF hl k => lv_astore_n (lv' := (lv'.map (fun q : Nat × Value => (q.1, j_v ad q.2)))) hF.1 hF.2.1 hd rfl hl hn (by rw [← hl']; exact j_s1_map (ad := ad) (v := .ref x)) k) k
theorem rn_astore {i : Nat} {x : Nat} {lv' : j_L} (hd : decode M.2.1 pc = .ok (.astore i, 2)) (hn : i < M.2.2.1) (hl' : j_s1 i (.ref x) lv = lv') (k : Rn l D ad tc L xs M d lo (pc + 2) lv' (st) h r h') : Rn l D ad tc L xs M d lo pc lv (.ref x :: st) h r h' :=
  rn_loc (lv' := lv') (pc' := pc + 2) (st' := st) (fun p e R s m args below meth c H locs cells slots ls Q hF hl k => lv_astore (lv' := (lv'.map (fun q : Nat × Value => (q.1, j_v ad q.2)))) hF.1 hF.2.1 hd hl hn (by rw [← hl']; exact j_s1_map (ad := ad) (v := .ref x)) k) k
theorem rn_lstore_n {k0 : Fin 4} {x : Int64} {lv' : j_L} (hd : decode M.2.1 pc = .ok (.lstore_n k0, 1)) (hn : (k0 : Nat) + 1 < M.2.2.1) (hl' : j_s2 (k0 : Nat) (.long x) lv = lv') (k : Rn l D ad tc L xs M d lo (pc + 1) lv' (st) h r h') : Rn l D ad tc L xs M d lo pc lv (.long x :: st) h r h' :=
  rn_loc (lv' := lv') (pc' := pc + 1) (st' := st) (fun p e R s m args below meth c H locs cells slots ls Q hF hl k => lv_lstore_n (lv' := (lv'.map (fun q : Nat × Value => (q.1, j_v ad q.2)))) hF.1 hF.2.1 hd rfl hl hn (by rw [← hl']; exact j_s2_map (ad := ad) (v := .long x)) k) k
theorem rn_lstore {i : Nat} {x : Int64} {lv' : j_L} (hd : decode M.2.1 pc = .ok (.lstore i, 2)) (hn : i + 1 < M.2.2.1) (hl' : j_s2 i (.long x) lv = lv') (k : Rn l D ad tc L xs M d lo (pc + 2) lv' (st) h r h') : Rn l D ad tc L xs M d lo pc lv (.long x :: st) h r h' :=
  rn_loc (lv' := lv') (pc' := pc + 2) (st' := st) (fun p e R s m args below meth c H locs cells slots ls Q hF hl k => lv_lstore (lv' := (lv'.map (fun q : Nat × Value => (q.1, j_v ad q.2)))) hF.1 hF.2.1 hd hl hn (by rw [← hl']; exact j_s2_map (ad := ad) (v := .long x)) k) k
theorem rn_dstore_n {k0 : Fin 4} {x : UInt64} {lv' : j_L} (hd : decode M.2.1 pc = .ok (.dstore_n k0, 1)) (hn : (k0 : Nat) + 1 < M.2.2.1) (hl' : j_s2 (k0 : Nat) (.double x) lv = lv') (k : Rn l D ad tc L xs M d lo (pc + 1) lv' (st) h r h') : Rn l D ad tc L xs M d lo pc lv (.double x :: st) h r h' :=
  rn_loc (lv' := lv') (pc' := pc + 1) (st' := st) (fun p e R s m args below meth c H locs cells slots ls Q hF hl k => lv_dstore_n (lv' := (lv'.map (fun q : Nat × Value => (q.1, j_v ad q.2)))) hF.1 hF.2.1 hd rfl hl hn (by rw [← hl']; exact j_s2_map (ad := ad) (v := .double x)) k) k
theorem rn_dstore {i : Nat} {x : UInt64} {lv' : j_L} (hd : decode M.2.1 pc = .ok (.dstore i, 2)) (hn : i + 1 < M.2.2.1) (hl' : j_s2 i (.double x) lv = lv') (k : Rn l D ad tc L xs M d lo (pc + 2) lv' (st) h r h') : Rn l D ad tc L xs M d lo pc lv (.double x :: st) h r h' :=
  rn_loc (lv' := lv') (pc' := pc + 2) (st' := st) (fun p e R s m args below meth c H locs cells slots ls Q hF hl k => lv_dstore (lv' := (lv'.map (fun q : Nat × Value => (q.1, j_v ad q.2)))) hF.1 hF.2.1 hd hl hn (by rw [← hl']; exact j_s2_map (ad := ad) (v := .double x)) k) k
theorem rn_iinc {i : Nat} {n : Int} {x v : Int32} {lv' : j_L} (hd : decode M.2.1 pc = .ok (.iinc i n, 3)) (hg : j_g lv i = some (.int x)) (hv : x + Int32.ofInt n = v) (hn : i < M.2.2.1) (hl' : j_s1 i (.int v) lv = lv') (k : Rn l D ad tc L xs M d lo (pc + 3) lv' (st) h r h') : Rn l D ad tc L xs M d lo pc lv (st) h r h' :=
  rn_loc (lv' := lv') (pc' := pc + 3) (st' := st) (fun p e R s m args below meth c H locs cells slots ls Q hF hl k => by
    obtain ⟨q, hq⟩ := List.getElem?_of_mem (j_g_mem hg)
    exact lv_iinc (lv' := (lv'.map (fun q : Nat × Value => (q.1, j_v ad q.2)))) hF.1 hF.2.1 hd hl (k := q) (by rw [List.getElem?_map, hq]; rfl) hv hn (by rw [← hl']; exact j_s1_map (ad := ad) (v := .int v)) k) k
end J2
end
section
/-! the cells of the little machine: reading, writing, making -/
theorem j_w_get {ad : Nat → Nat} {tc : Nat → ClassId} {G : List j_C} {k : Nat} {c : j_C} (h : G[k]? = some c) : (j_w ad tc G)[k]? = some (ad (k + 1), j_c ad tc c) := by
  simp [j_w, List.getElem?_mapIdx, h]
theorem j_w_in {ad : Nat → Nat} {tc : Nat → ClassId} {G : List j_C} {k : Nat} {q : Nat × va_E} (h : (j_w ad tc G)[k]? = some q) : ∃ c, G[k]? = some c ∧ q = (ad (k + 1), j_c ad tc c) := by
  simp only [j_w, List.getElem?_mapIdx] at h
  cases hc : G[k]? with
  | none => rw [hc] at h; cases h
  | some c => rw [hc] at h; exact ⟨c, rfl, (Option.some.inj h).symm⟩
theorem j_w_set {ad : Nat → Nat} {tc : Nat → ClassId} {G : List j_C} {k : Nat} {c : j_C} : (j_w ad tc G).set k (ad (k + 1), j_c ad tc c) = j_w ad tc (G.set k c) := by
  apply List.ext_getElem?
  intro i
  simp only [j_w, List.getElem?_set, List.getElem?_mapIdx, List.length_mapIdx]
  by_cases e : k = i
  · subst e
    by_cases hk : k < G.length
    · simp [hk]
    · simp [hk]
  · simp [e]
theorem j_w_app {ad : Nat → Nat} {tc : Nat → ClassId} {G : List j_C} {c : j_C} : j_w ad tc (G ++ [c]) = j_w ad tc G ++ [(ad (G.length + 1), j_c ad tc c)] := by
  simp [j_w, List.mapIdx_append]
theorem j_D {ad : Nat → Nat} {tc : Nat → ClassId} {G : List j_C} (hinj : ∀ i j, ad i = ad j → i = j) : va_D (j_A ad) (j_w ad tc G) := by
  refine ⟨fun i j p q hp hq e => ?_, fun k q hq => ?_⟩
  · obtain ⟨_, -, rfl⟩ := j_w_in hp
    obtain ⟨_, -, rfl⟩ := j_w_in hq
    have := hinj _ _ e
    omega
  · obtain ⟨_, -, rfl⟩ := j_w_in hq
    exact ⟨k, rfl⟩
theorem j_nA {ad : Nat → Nat} (hinj : ∀ i j, ad i = ad j → i = j) : ¬ j_A ad (ad 0) := fun ⟨k, hk⟩ => by
  have := hinj _ _ hk
  omega
theorem j_ty_at {tc : Nat → ClassId} {t : Nat} {ty : FieldType} (h : j_ty[t]? = some ty) : (j_tys tc)[t]? = some (tc t, ty) := by
  simp [j_tys, List.getElem?_mapIdx, h]
theorem va_P.sz {D : va_G} {ad : Nat → Nat} {tc : Nat → ClassId} {H H' : Heap} {G G' : List j_C} (hP : va_P D j_cl (j_w ad tc G) H) {k : Nat} {c : j_C} (h : G[k]? = some c) : ad (k + 1) < H.size := (hP k _ (j_w_get h)).lt
section J3
variable {l : Launch} {D : va_G} {ad : Nat → Nat} {tc : Nat → ClassId} {L : Nat} {xs : Nat → Int32} {M : j_M} {d lo pc : Nat} {lv : j_L} {st : List Value} {h h' : j_H} {r : Option Value}
/-- what the tables say of a field's use: the class's own entry idx is the field k of the class ci -/
def j_fo (own : String) (idx ci k : Nat) : Prop := ∃ (C : String) (T : u_T) (N : Nat), j_cl[ci]? = some (C, T, N) ∧ k < N ∧ (∀ w ∈ u_ws C T N, w ∈ j_all) ∧ Cond.fieldLink own idx C (T k).2.1 (T k).2.2.1 ∈ j_all ∧ (T k).1 = C
theorem rn_getfield {idx ci k a : Nat} {fs : List Value} {v : Value} (hd : decode M.2.1 pc = .ok (.getfield idx, 3)) (hf : j_fo M.1.cls idx ci k) (he : h.1[a]? = some (.inr (ci, fs))) (hv : fs[k]? = some v)
    (kk : Rn l D ad tc L xs M d lo (pc + 3) lv (v :: st) h r h') : Rn l D ad tc L xs M d lo pc lv (.ref (a + 1) :: st) h r h' := by
  refine rn_pure (fun p e R s m args below meth c H locs cells slots ls Q hF hd1 hd2 hl hP hS kw => ?_) kk
  obtain ⟨C, T, N, f1, f2, f3, f4, f5⟩ := hf
  obtain ⟨hx, hb, hml, hown, hts, hkw, hK, hX, hbl, hn, hinj⟩ := hF
  exact va_get (D := D) (cl := j_cl) (tys := j_tys tc) (ws := j_w ad tc h.1) (ci := ci) (fs := fs.map (j_v ad)) hx hb hts f3 hown hK hP.1 a (j_w_get he) f1 k f2 (hts _ f4) (fun x hx2 => by rw [f5] at hx2; exact hx2) (by rw [List.getElem?_map, hv]; rfl) hd kw
/-- .. and to write it -/
def j_fp (own : String) (idx ci k : Nat) (ty : FieldType) : Prop := ∃ (C : String) (T : u_T) (N : Nat) (ty0 : Nat → FieldType), j_cl[ci]? = some (C, T, N) ∧ k < N ∧ (∀ w ∈ u_ws C T N, w ∈ j_all) ∧ Cond.fieldLink own idx C (T k).2.1 (T k).2.2.1 ∈ j_all ∧ (T k).1 = C ∧ (∀ k, k < N → parseFieldDescriptor (T k).2.2.1 = some (ty0 k)) ∧ (∀ a, a < N → ∀ b, b < N → a ≠ b → (T a).2.1 ≠ (T b).2.1) ∧ ty0 k = ty ∧ ((T k).2.2.2 = false ∨ (T k).2.2.2 = true ∧ C = own)
theorem rn_putfield {idx ci k a : Nat} {fs : List Value} {v : Value} {ty : FieldType} (hd : decode M.2.1 pc = .ok (.putfield idx, 3)) (hf : j_fp M.1.cls idx ci k ty) (he : h.1[a]? = some (.inr (ci, fs))) (hk : k < fs.length) (hn : ∀ ad, narrow ty (j_v ad v) = j_v ad v ∧ fits ty (j_v ad v) = true) (hi : M.1.name = "<init>" ∨ ∃ C T N, j_cl[ci]? = some (C, T, N) ∧ (T k).2.2.2 = false)
    (kk : Rn l D ad tc L xs M d lo (pc + 3) lv st (h.1.set a (.inr (ci, fs.set k v)), h.2) r h') : Rn l D ad tc L xs M d lo pc lv (v :: .ref (a + 1) :: st) h r h' := by
  refine rn_cell (h2 := (h.1.set a (.inr (ci, fs.set k v)), h.2)) (by simp) rfl (fun p e R s m args below meth c H locs cells slots ls Q hF hl hP hS kw => ?_) kk
  obtain ⟨C, T, N, ty0, f1, f2, f3, f4, f5, f6, f7, f8, f9⟩ := hf
  obtain ⟨hx, hb, hml, hown, hts, hkw, hK, hX, hbl, hnm, hinj⟩ := hF
  have hlen : k < (fs.map (j_v ad)).length := by rw [List.length_map]; exact hk
  have go : ∀ (H1 : Heap) (locs1 : List Loc), va_P D j_cl ((j_w ad tc h.1).set a (ad (a + 1), .inr (ci, (fs.map (j_v ad)).set k (j_v ad v)))) H1 → va_D (j_A ad) ((j_w ad tc h.1).set a (ad (a + 1), .inr (ci, (fs.map (j_v ad)).set k (j_v ad v)))) → va_S (j_A ad) s.heap H1 locs1 → H1.size = H.size → W p l e R s m args below meth c H1 locs1 cells slots Q (F0 m (pc + 3) ls (st.map (j_v ad))) := by
    intro H1 locs1 hP1 _ hS1 hz
    refine kw H1 locs1 ⟨?_, fun j => ?_⟩ hS1
    · have e := j_w_set (ad := ad) (tc := tc) (G := h.1) (k := a) (c := .inr (ci, fs.set k v))
      rw [show j_c ad tc (.inr (ci, fs.set k v)) = .inr (ci, (fs.map (j_v ad)).set k (j_v ad v)) by show Sum.inr (ci, (fs.set k v).map (j_v ad)) = _; rw [List.map_set]] at e
      rw [← e]
      exact hP1
    · rw [List.length_set, hz]
      exact hP.2 j
  have hap := va_apart (own := M.1.cls) hts f3 ty0 f6 f7 hK f1
  obtain ⟨r0, h1, cell, q1, q2, q3, q4⟩ := hP.1 a _ (j_w_get he)
  have hr : r0 = (C, T, N) := Option.some.inj (h1.symm.trans f1)
  subst hr
  obtain ⟨hSl, hfc, kC, hkC, hkind⟩ := hK.1 ci _ f1
  obtain ⟨cf, kf, fi, f, hi2, hsl⟩ := hSl k f2
  have hlay := hts _ (f3 _ (u_in_lay f2))
  have hst := (u_facts hfc hkC (u_lays hts f3 f2) hi2).1
  have hpd := f6 k f2
  rw [f8] at hpd
  rcases hfl : (T k).2.2.2 with _ | _
  · unfold u_lay at hlay
    rw [if_neg (by rw [hfl]; decide)] at hlay
    have h6 := u_store hfc hkC hkind hlay hi2 hpd (hn ad).1 (hn ad).2
    refine W.putK hx hb (f := f) ⟨hown, hts _ f4, ⟨_, _, _, (by rw [f5] at hi2; exact hi2)⟩, hst⟩ (by rw [q2]; exact h6) q1 q3 (by rw [hsl]; exact k2_hasslot (q4 k f2)) rfl rfl hd fun H' e1 e2 e3 => ?_
    rw [hsl] at e1 ⊢
    exact go H' _ (hP.1.set (j_D hinj) (j_w_get he) ⟨_, f1, t_OB.to (V := updV (vp_V (fs.map (j_v ad))) k (j_v ad v)) ⟨_, e1, q2, q3, t_set q4 hap f2 _⟩ (fun j _ => vp_updV_set hlen _ j)⟩ e3) ((j_D hinj).set (j_w_get he)) (hS.put e2 e3 ⟨a, rfl⟩) e2
  · have hini : M.1.name = "<init>" := by
      rcases hi with hi | ⟨C', T', N', g1, g2⟩
      · exact hi
      · cases g1.symm.trans f1
        rw [hfl] at g2
        cases g2
    have hco : C = M.1.cls := by
      rcases f9 with f9 | f9
      · rw [hfl] at f9; cases f9
      · exact f9.2
    unfold u_lay at hlay
    rw [if_pos hfl] at hlay
    have hcf : m.cls = cf := by
      obtain ⟨_, _, c', _, _, _, -, -, hf', -, -, -, hown2, -⟩ := Cond.laysFinal_spec hlay
      have e1 : c' = cf := by have := hi2.symm.trans hf'; simp at this; exact this.1.symm
      rw [f5, hco] at hown2
      rw [← e1]; exact Option.some.inj (hown.symm.trans hown2)
    have h6 := u_fits hfc hkC hkind (Or.inr hlay) hi2 hpd (hn ad).1 (hn ad).2
    refine W.putFinK hx hb hown (hts _ f4) (by rw [f5] at hi2; exact hi2) hst hcf (hnm.trans hini) (by rw [q2]; exact h6) q1 q3 (by rw [hsl]; exact k2_hasslot (q4 k f2)) rfl rfl hd fun H' e1 e2 e3 => ?_
    rw [hsl] at e1 ⊢
    exact go H' _ (hP.1.set (j_D hinj) (j_w_get he) ⟨_, f1, t_OB.to (V := updV (vp_V (fs.map (j_v ad))) k (j_v ad v)) ⟨_, e1, q2, q3, t_set q4 hap f2 _⟩ (fun j _ => vp_updV_set hlen _ j)⟩ e3) ((j_D hinj).set (j_w_get he)) (hS.put e2 e3 ⟨a, rfl⟩) e2
end J3
section J4
variable {l : Launch} {D : va_G} {ad : Nat → Nat} {tc : Nat → ClassId} {L : Nat} {xs : Nat → Int32} {M : j_M} {d lo pc : Nat} {lv : j_L} {st : List Value} {h h' : j_H} {r : Option Value}
theorem rn_iaload {a t n : Nat} {f : Nat → Int32} {i : Int32} (hd : decode M.2.1 pc = .ok (.iaload, 1)) (he : h.1[a]? = some (.inl (t, n, .inl f))) (ht : j_ty[t]? = some .int) (hin : vp_in i n)
    (kk : Rn l D ad tc L xs M d lo (pc + 1) lv (.int (f i.toNatClampNeg) :: st) h r h') : Rn l D ad tc L xs M d lo pc lv (.int i :: .ref (a + 1) :: st) h r h' :=
  rn_pure (fun p e R s m args below meth c H locs cells slots ls Q hF hd1 hd2 hl hP hS kw => va_iald hF.1 hF.2.1 hF.2.2.2.2.2.2.1 hP.1 a t (j_w_get he) (j_ty_at ht) hin hd kw) kk
theorem rn_faload {a t n : Nat} {f : Nat → UInt32} {i : Int32} (hd : decode M.2.1 pc = .ok (.faload, 1)) (he : h.1[a]? = some (.inl (t, n, .inr (.inr (.inl f))))) (ht : j_ty[t]? = some .float) (hin : vp_in i n)
    (kk : Rn l D ad tc L xs M d lo (pc + 1) lv (.float (f i.toNatClampNeg) :: st) h r h') : Rn l D ad tc L xs M d lo pc lv (.int i :: .ref (a + 1) :: st) h r h' :=
  rn_pure (fun p e R s m args below meth c H locs cells slots ls Q hF hd1 hd2 hl hP hS kw => va_fald hF.1 hF.2.1 hF.2.2.2.2.2.2.1 hP.1 a t (j_w_get he) (j_ty_at ht) hin hd kw) kk
theorem rn_daload {a t n : Nat} {f : Nat → UInt64} {i : Int32} (hd : decode M.2.1 pc = .ok (.daload, 1)) (he : h.1[a]? = some (.inl (t, n, .inr (.inr (.inr (.inl f)))))) (ht : j_ty[t]? = some .double) (hin : vp_in i n)
    (kk : Rn l D ad tc L xs M d lo (pc + 1) lv (.double (f i.toNatClampNeg) :: st) h r h') : Rn l D ad tc L xs M d lo pc lv (.int i :: .ref (a + 1) :: st) h r h' :=
  rn_pure (fun p e R s m args below meth c H locs cells slots ls Q hF hd1 hd2 hl hP hS kw => va_dald hF.1 hF.2.1 hF.2.2.2.2.2.2.1 hP.1 a t (j_w_get he) (j_ty_at ht) hin hd kw) kk
theorem rn_laload {a t n : Nat} {f : Nat → Int64} {i : Int32} (hd : decode M.2.1 pc = .ok (.laload, 1)) (he : h.1[a]? = some (.inl (t, n, .inr (.inl f)))) (ht : j_ty[t]? = some .long) (hin : vp_in i n)
    (kk : Rn l D ad tc L xs M d lo (pc + 1) lv (.long (f i.toNatClampNeg) :: st) h r h') : Rn l D ad tc L xs M d lo pc lv (.int i :: .ref (a + 1) :: st) h r h' :=
  rn_pure (fun p e R s m args below meth c H locs cells slots ls Q hF hd1 hd2 hl hP hS kw => va_lald hF.1 hF.2.1 hF.2.2.2.2.2.2.1 hP.1 a t (j_w_get he) (j_ty_at ht) hin hd kw) kk
theorem rn_aaload {a t n b : Nat} {f : Nat → Option Nat} {C : String} {i : Int32} (hd : decode M.2.1 pc = .ok (.aaload, 1)) (he : h.1[a]? = some (.inl (t, n, .inr (.inr (.inr (.inr f)))))) (ht : j_ty[t]? = some (.object C)) (hin : vp_in i n) (hv : f i.toNatClampNeg = some b)
    (kk : Rn l D ad tc L xs M d lo (pc + 1) lv (.ref b :: st) h r h') : Rn l D ad tc L xs M d lo pc lv (.int i :: .ref (a + 1) :: st) h r h' :=
  rn_pure (fun p e R s m args below meth c H locs cells slots ls Q hF hd1 hd2 hl hP hS kw => va_aldq (f := j_f ad f) hF.1 hF.2.1 hF.2.2.2.2.2.2.1 hP.1 a t (j_w_get he) (j_ty_at ht) hin hd (by
    rw [show va_rf (j_f ad f i.toNatClampNeg) = .ref (ad b) by simp [j_f, hv, va_rf]]
    exact kw)) kk
theorem rn_alen {a t : Nat} {x : vp_A} {v : Int32} {ty : FieldType} (hd : decode M.2.1 pc = .ok (.arraylength, 1)) (he : h.1[a]? = some (.inl (t, x))) (ht : j_ty[t]? = some ty) (hv : Int32.ofNat x.1 = v)
    (kk : Rn l D ad tc L xs M d lo (pc + 1) lv (.int v :: st) h r h') : Rn l D ad tc L xs M d lo pc lv (.ref (a + 1) :: st) h r h' :=
  rn_pure (fun p e R s m args below meth c H locs cells slots ls Q hF hd1 hd2 hl hP hS kw => by
    obtain ⟨n, f | f | f | f | f⟩ := x
    · exact va_alen hF.1 hF.2.1 hF.2.2.2.2.2.2.1 hP.1 a t (x := (n, .inl f)) (j_w_get he) (j_ty_at ht) hv hd kw
    · exact va_alen hF.1 hF.2.1 hF.2.2.2.2.2.2.1 hP.1 a t (x := (n, .inr (.inl f))) (j_w_get he) (j_ty_at ht) hv hd kw
    · exact va_alen hF.1 hF.2.1 hF.2.2.2.2.2.2.1 hP.1 a t (x := (n, .inr (.inr (.inl f)))) (j_w_get he) (j_ty_at ht) hv hd kw
    · exact va_alen hF.1 hF.2.1 hF.2.2.2.2.2.2.1 hP.1 a t (x := (n, .inr (.inr (.inr (.inl f))))) (j_w_get he) (j_ty_at ht) hv hd kw
    · exact va_alen hF.1 hF.2.1 hF.2.2.2.2.2.2.1 hP.1 a t (x := (n, .inr (.inr (.inr (.inr (j_f ad f)))))) (j_w_get he) (j_ty_at ht) hv hd kw) kk
/-- the script is the reference 0 -/
theorem rn_sld {i : Int32} (hd : decode M.2.1 pc = .ok (.iaload, 1)) (hin : vp_in i L) (kk : Rn l D ad tc L xs M d lo (pc + 1) lv (.int (xs i.toNatClampNeg) :: st) h r h') : Rn l D ad tc L xs M d lo pc lv (.int i :: .ref 0 :: st) h r h' :=
  rn_pure (fun p e R s m args below meth c H locs cells slots ls Q hF hd1 hd2 hl hP hS kw => va_sld hF.1 hF.2.1 hF.2.2.2.2.2.2.2.1 hF.2.2.2.2.2.2.2.2.1 (j_nA hF.2.2.2.2.2.2.2.2.2.2) hS hin hd kw) kk
theorem rn_slen (hd : decode M.2.1 pc = .ok (.arraylength, 1)) (kk : Rn l D ad tc L xs M d lo (pc + 1) lv (.int (Int32.ofNat L) :: st) h r h') : Rn l D ad tc L xs M d lo pc lv (.ref 0 :: st) h r h' :=
  rn_pure (fun p e R s m args below meth c H locs cells slots ls Q hF hd1 hd2 hl hP hS kw => va_slen hF.1 hF.2.1 hF.2.2.2.2.2.2.2.1 hF.2.2.2.2.2.2.2.2.1 (j_nA hF.2.2.2.2.2.2.2.2.2.2) hS hd kw) kk
theorem rn_iastore {a t n : Nat} {f : Nat → Int32} {i : Int32} {x : Int32} (hd : decode M.2.1 pc = .ok (.iastore, 1)) (he : h.1[a]? = some (.inl (t, n, .inl f))) (ht : j_ty[t]? = some .int) (hin : vp_in i n)
    (kk : Rn l D ad tc L xs M d lo (pc + 1) lv st (h.1.set a (.inl (t, n, .inl (upd f i.toNatClampNeg x))), h.2) r h') : Rn l D ad tc L xs M d lo pc lv (.int x :: .int i :: .ref (a + 1) :: st) h r h' :=
  rn_cell (h2 := (h.1.set a (.inl (t, n, .inl (upd f i.toNatClampNeg x))), h.2)) (by simp) rfl (fun p e R s m args below meth c H locs cells slots ls Q hF hl hP hS kw => by
    refine W.iast hF.1 hF.2.1 (hP.1 a _ (j_w_get he)) ((hF.2.2.2.2.2.2.1.2 t _ (j_ty_at ht)).1 n (fun j => .int (f j))) (fun q => by cases q) (by show ¬ (i < 0 ∨ (arrV _ _ _).slots.size ≤ _); rw [arrV_size]; exact hin) rfl rfl hd fun H1 e1 z oq => ?_
    refine kw H1 _ ⟨?_, fun j => by rw [List.length_set, z]; exact hP.2 j⟩ (hS.put z oq ⟨a, rfl⟩)
    have hset := hP.1.set (j_D hF.2.2.2.2.2.2.2.2.2.2) (j_w_get he) (e := .inl (tc t, n, .inl (upd f i.toNatClampNeg x))) (H1 := H1) ?_ oq
    · have e := j_w_set (ad := ad) (tc := tc) (G := h.1) (k := a) (c := .inl (t, n, .inl (upd f i.toNatClampNeg x)))
      rw [← e]
      exact hset
    · show H1[ad (a + 1)]? = some (vp_cell _ _)
      rw [e1, vp_cell_i]
      show some ((vp_cell (tc t) (n, .inl f)).setSlot _ _) = _
      rw [vp_cell_i, arrV_store]
      refine (congrArg (fun g => some (arrV (tc t) n g)) (funext fun q => ?_) : some (arrV (tc t) n (updV (fun j => .int (f j)) i.toNatClampNeg (.int x))) = some (arrV (tc t) n (fun j => .int ((upd f i.toNatClampNeg x) j))))
      by_cases hq : q = i.toNatClampNeg
      · subst hq
        simp [updV, upd]
      · simp [updV, upd, hq]) kk
theorem rn_lastore {a t n : Nat} {f : Nat → Int64} {i : Int32} {x : Int64} (hd : decode M.2.1 pc = .ok (.lastore, 1)) (he : h.1[a]? = some (.inl (t, n, .inr (.inl f)))) (ht : j_ty[t]? = some .long) (hin : vp_in i n)
    (kk : Rn l D ad tc L xs M d lo (pc + 1) lv st (h.1.set a (.inl (t, n, .inr (.inl (vp_updL f i.toNatClampNeg x)))), h.2) r h') : Rn l D ad tc L xs M d lo pc lv (.long x :: .int i :: .ref (a + 1) :: st) h r h' :=
  rn_cell (h2 := (h.1.set a (.inl (t, n, .inr (.inl (vp_updL f i.toNatClampNeg x)))), h.2)) (by simp) rfl (fun p e R s m args below meth c H locs cells slots ls Q hF hl hP hS kw => by
    refine W.last hF.1 hF.2.1 (hP.1 a _ (j_w_get he)) ((hF.2.2.2.2.2.2.1.2 t _ (j_ty_at ht)).1 n (fun j => .long (f j))) (fun q => by cases q) (by show ¬ (i < 0 ∨ (arrV _ _ _).slots.size ≤ _); rw [arrV_size]; exact hin) rfl rfl hd fun H1 e1 z oq => ?_
    refine kw H1 _ ⟨?_, fun j => by rw [List.length_set, z]; exact hP.2 j⟩ (hS.put z oq ⟨a, rfl⟩)
    have hset := hP.1.set (j_D hF.2.2.2.2.2.2.2.2.2.2) (j_w_get he) (e := .inl (tc t, n, .inr (.inl (vp_updL f i.toNatClampNeg x)))) (H1 := H1) ?_ oq
    · have e := j_w_set (ad := ad) (tc := tc) (G := h.1) (k := a) (c := .inl (t, n, .inr (.inl (vp_updL f i.toNatClampNeg x))))
      rw [← e]
      exact hset
    · show H1[ad (a + 1)]? = some (vp_cell _ _)
      rw [e1, vp_cell_l]
      show some ((vp_cell (tc t) (n, .inr (.inl f))).setSlot _ _) = _
      rw [vp_cell_l, arrV_store]
      refine (congrArg (fun g => some (arrV (tc t) n g)) (funext fun q => ?_) : some (arrV (tc t) n (updV (fun j => .long (f j)) i.toNatClampNeg (.long x))) = some (arrV (tc t) n (fun j => .long ((vp_updL f i.toNatClampNeg x) j))))
      by_cases hq : q = i.toNatClampNeg
      · subst hq
        simp [updV, vp_updL]
      · simp [updV, vp_updL, hq]) kk
theorem rn_fastore {a t n : Nat} {f : Nat → UInt32} {i : Int32} {x : UInt32} (hd : decode M.2.1 pc = .ok (.fastore, 1)) (he : h.1[a]? = some (.inl (t, n, .inr (.inr (.inl f))))) (ht : j_ty[t]? = some .float) (hin : vp_in i n)
    (kk : Rn l D ad tc L xs M d lo (pc + 1) lv st (h.1.set a (.inl (t, n, .inr (.inr (.inl (vf_upd f i.toNatClampNeg x))))), h.2) r h') : Rn l D ad tc L xs M d lo pc lv (.float x :: .int i :: .ref (a + 1) :: st) h r h' :=
  rn_cell (h2 := (h.1.set a (.inl (t, n, .inr (.inr (.inl (vf_upd f i.toNatClampNeg x))))), h.2)) (by simp) rfl (fun p e R s m args below meth c H locs cells slots ls Q hF hl hP hS kw => by
    refine W.fast hF.1 hF.2.1 (hP.1 a _ (j_w_get he)) ((hF.2.2.2.2.2.2.1.2 t _ (j_ty_at ht)).1 n (fun j => .float (f j))) (fun q => by cases q) (by show ¬ (i < 0 ∨ (arrV _ _ _).slots.size ≤ _); rw [arrV_size]; exact hin) rfl rfl hd fun H1 e1 z oq => ?_
    refine kw H1 _ ⟨?_, fun j => by rw [List.length_set, z]; exact hP.2 j⟩ (hS.put z oq ⟨a, rfl⟩)
    have hset := hP.1.set (j_D hF.2.2.2.2.2.2.2.2.2.2) (j_w_get he) (e := .inl (tc t, n, .inr (.inr (.inl (vf_upd f i.toNatClampNeg x))))) (H1 := H1) ?_ oq
    · have e := j_w_set (ad := ad) (tc := tc) (G := h.1) (k := a) (c := .inl (t, n, .inr (.inr (.inl (vf_upd f i.toNatClampNeg x)))))
      rw [← e]
      exact hset
    · show H1[ad (a + 1)]? = some (vp_cell _ _)
      rw [e1, vp_cell_f]
      show some ((vp_cell (tc t) (n, .inr (.inr (.inl f)))).setSlot _ _) = _
      rw [vp_cell_f, arrV_store]
      refine (congrArg (fun g => some (arrV (tc t) n g)) (funext fun q => ?_) : some (arrV (tc t) n (updV (fun j => .float (f j)) i.toNatClampNeg (.float x))) = some (arrV (tc t) n (fun j => .float ((vf_upd f i.toNatClampNeg x) j))))
      by_cases hq : q = i.toNatClampNeg
      · subst hq
        simp [updV, vf_upd]
      · simp [updV, vf_upd, hq]) kk
theorem rn_dastore {a t n : Nat} {f : Nat → UInt64} {i : Int32} {x : UInt64} (hd : decode M.2.1 pc = .ok (.dastore, 1)) (he : h.1[a]? = some (.inl (t, n, .inr (.inr (.inr (.inl f)))))) (ht : j_ty[t]? = some .double) (hin : vp_in i n)
    (kk : Rn l D ad tc L xs M d lo (pc + 1) lv st (h.1.set a (.inl (t, n, .inr (.inr (.inr (.inl (vf_upd f i.toNatClampNeg x)))))), h.2) r h') : Rn l D ad tc L xs M d lo pc lv (.double x :: .int i :: .ref (a + 1) :: st) h r h' :=
  rn_cell (h2 := (h.1.set a (.inl (t, n, .inr (.inr (.inr (.inl (vf_upd f i.toNatClampNeg x)))))), h.2)) (by simp) rfl (fun p e R s m args below meth c H locs cells slots ls Q hF hl hP hS kw => by
    refine W.dast hF.1 hF.2.1 (hP.1 a _ (j_w_get he)) ((hF.2.2.2.2.2.2.1.2 t _ (j_ty_at ht)).1 n (fun j => .double (f j))) (fun q => by cases q) (by show ¬ (i < 0 ∨ (arrV _ _ _).slots.size ≤ _); rw [arrV_size]; exact hin) rfl rfl hd fun H1 e1 z oq => ?_
    refine kw H1 _ ⟨?_, fun j => by rw [List.length_set, z]; exact hP.2 j⟩ (hS.put z oq ⟨a, rfl⟩)
    have hset := hP.1.set (j_D hF.2.2.2.2.2.2.2.2.2.2) (j_w_get he) (e := .inl (tc t, n, .inr (.inr (.inr (.inl (vf_upd f i.toNatClampNeg x)))))) (H1 := H1) ?_ oq
    · have e := j_w_set (ad := ad) (tc := tc) (G := h.1) (k := a) (c := .inl (t, n, .inr (.inr (.inr (.inl (vf_upd f i.toNatClampNeg x))))))
      rw [← e]
      exact hset
    · show H1[ad (a + 1)]? = some (vp_cell _ _)
      rw [e1, vp_cell_d]
      show some ((vp_cell (tc t) (n, .inr (.inr (.inr (.inl f))))).setSlot _ _) = _
      rw [vp_cell_d, arrV_store]
      refine (congrArg (fun g => some (arrV (tc t) n g)) (funext fun q => ?_) : some (arrV (tc t) n (updV (fun j => .double (f j)) i.toNatClampNeg (.double x))) = some (arrV (tc t) n (fun j => .double ((vf_upd f i.toNatClampNeg x) j))))
      by_cases hq : q = i.toNatClampNeg
      · subst hq
        simp [updV, vf_upd]
      · simp [updV, vf_upd, hq]) kk
end J4
end
section
/-! making cells; contracts and calls of the little machine -/
section J5
variable {l : Launch} {D : va_G} {ad : Nat → Nat} {tc : Nat → ClassId} {L : Nat} {xs : Nat → Int32} {M : j_M} {d lo pc : Nat} {lv : j_L} {st : List Value} {h h' : j_H} {r : Option Value}
theorem j_push {D : va_G} {ad : Nat → Nat} {tc : Nat → ClassId} {H H1 : Heap} {h : j_H} {x : j_C} {n : Nat} (hP : j_P D ad tc H h) (z : H1.size = H.size + 1) (o : ∀ q : Nat, q < H.size → H1[q]? = H[q]?) (hx : va_at D j_cl (H.size, j_c ad tc x) H1) : j_P D ad tc H1 (h.1 ++ [x], h.2 + n) := by
  have h0 := hP.2 0
  refine ⟨?_, fun k => ?_⟩
  · show va_P D j_cl (j_w ad tc (h.1 ++ [x])) H1
    rw [j_w_app]
    refine (hP.1.kept fun k q hq => o q.1 (hP.1 k q hq).lt).app fun k q hq => ?_
    have hz : k < 1 := (List.getElem?_eq_some_iff.mp hq).1
    rw [show k = 0 by omega] at hq
    cases hq
    rw [show ad (h.1.length + 1) = H.size from h0]
    exact hx
  · have := hP.2 (k + 1)
    simp only [List.length_append, List.length_cons, List.length_nil]
    rw [show h.1.length + (0 + 1) + 1 + k = h.1.length + 1 + (k + 1) by omega, this, z]
    omega
/-- the class ci, made by the own entry idx, born with the fields fs -/
def j_no (own : String) (idx ci : Nat) (fs : List Value) : Prop := ∃ (C : String) (T : u_T) (N : Nat) (ty : Nat → FieldType), j_cl[ci]? = some (C, T, N) ∧ (∀ w ∈ u_ws C T N, w ∈ j_all) ∧ (∀ k, k < N → parseFieldDescriptor (T k).2.2.1 = some (ty k)) ∧ Cond.classLink own idx C ∈ j_all ∧ Cond.instantiable C N ∈ j_all ∧ Cond.initialized C ∈ j_all ∧ (∀ j, j < N → defaultValue (ty j) = vp_V fs j) ∧ (∀ ad, fs.map (j_v ad) = fs) ∧ fs.length = N
theorem rn_new {idx ci : Nat} {fs : List Value} (hd : decode M.2.1 pc = .ok (.new idx, 3)) (hn : j_no M.1.cls idx ci fs)
    (kk : Rn l D ad tc L xs M d lo (pc + 3) lv (.ref (h.1.length + 1) :: st) (h.1 ++ [.inr (ci, fs)], h.2 + fs.length) r h') : Rn l D ad tc L xs M d lo pc lv st h r h' := by
  refine rn_make (x := .inr (ci, fs)) (n := fs.length) (fun p e R s m args below meth c H locs cells slots ls Q hF hc hs hP hS kw => ?_) kk
  obtain ⟨C, T, N, ty, f1, f2, f3, f4, f5, f6, f7, f8, f9⟩ := hn
  obtain ⟨hx, hb, hml, hown, hts, hkw, hK, hX, hbl, hnm, hinj⟩ := hF
  have hKn := hK.1 ci _ f1
  rw [f9] at hs kw
  refine W.newcK hx hb hown (hts _ f4) (hts _ f5) (hts _ f6) rfl hd hc hs hKn.2.1 rfl fun H1 kC hkC e1 z1 o1 => ?_
  have h0 := hP.2 0
  have hkw := kw H1 (by
    have := j_push (n := fs.length) hP z1 o1 (x := .inr (ci, fs)) ⟨_, f1, by
      show t_OB H.size _ _ _ H1 (vp_V (fs.map (j_v ad)))
      rw [f8]
      exact (u_born ty hts f2 hKn hkC e1 f3).to f7⟩
    rw [f9] at this
    exact this) ⟨Nat.le_trans hS.1 (by omega), fun q h1 h2 => (o1 q (Nat.lt_of_lt_of_le h1 hS.1)).trans (hS.2.1 q h1 h2), hS.2.2⟩
  show W p l e R s m args below meth c H1 locs (cells + 1) (slots + N) Q (F0 m (pc + 3) ls (.ref H.size :: st.map (j_v ad)))
  rw [← show ad (h.1.length + 1) = H.size from h0]
  exact hkw
theorem j_tc {D : va_G} {tc : Nat → ClassId} {s : State} {t : Nat} {cA : ClassId} {at' : ArrayType} (hK : va_K D j_cl (j_tys tc) s) (ht : j_ty[t]? = some (newarray.typeOf at')) (h : s.vm.findClass ("[" ++ (newarray.typeOf at').toString) = some cA) : cA = tc t := by
  have h2 := (hK.2 t _ (j_ty_at ht)).2
  cases at' <;> exact Option.some.inj (h.symm.trans h2)
theorem rn_newarray {atype : ArrayType} {t N : Nat} {n : Int32} {f : vp_A} (hd : decode M.2.1 pc = .ok (.newarray atype, 2)) (ht : j_ty[t]? = some (newarray.typeOf atype)) (hw : Cond.arrayClass (newarray.typeOf atype) ∈ j_all) (hn : ¬ n < 0) (hN : n.toNatClampNeg = N) (hby : N * componentBytes (newarray.typeOf atype) ≤ 536870912)
    (hf : ∀ cA : ClassId, vp_cell cA f = arrV cA N (fun _ => defaultValue (newarray.typeOf atype))) (hj : ∀ ad tc, j_c ad tc (.inl (t, f)) = .inl (tc t, f))
    (kk : Rn l D ad tc L xs M d lo (pc + 2) lv (.ref (h.1.length + 1) :: st) (h.1 ++ [.inl (t, f)], h.2 + N) r h') : Rn l D ad tc L xs M d lo pc lv (.int n :: st) h r h' := by
  refine rn_make (x := .inl (t, f)) (n := N) (fun p e R s m args below meth c H locs cells slots ls Q hF hc hs hP hS kw => ?_) kk
  obtain ⟨hx, hb, hml, hown, hts, hkw, hK, hX, hbl, hnm, hinj⟩ := hF
  refine va_newaK hx hb (hts _ hw) rfl hd rfl hn hN hby hc hs rfl fun H1 cA e1 z1 o1 hAr hNm => ?_
  have h0 := hP.2 0
  have hcA := j_tc hK ht hNm
  subst hcA
  have hkw := kw H1 (j_push (n := N) hP z1 o1 (x := .inl (t, f)) (by
      rw [hj]
      show H1[H.size]? = some (vp_cell _ _)
      rw [hf]
      exact e1)) ⟨Nat.le_trans hS.1 (by omega), fun q h1 h2 => (o1 q (Nat.lt_of_lt_of_le h1 hS.1)).trans (hS.2.1 q h1 h2), hS.2.2⟩
  show W p l e R s m args below meth c H1 locs (cells + 1) (slots + N) Q (F0 m (pc + 2) ls (.ref H.size :: st.map (j_v ad)))
  rw [← show ad (h.1.length + 1) = H.size from h0]
  exact hkw
theorem rn_anewarray {C : String} {idx t N : Nat} {n : Int32} (hd : decode M.2.1 pc = .ok (.anewarray idx, 3)) (ht : j_ty[t]? = some (.object C)) (hw : Cond.classLink M.1.cls idx C ∈ j_all) (ho : C ∈ j_ao) (hn : ¬ n < 0) (hN : n.toNatClampNeg = N) (hby : N * 4 ≤ 536870912)
    (kk : Rn l D ad tc L xs M d lo (pc + 3) lv (.ref (h.1.length + 1) :: st) (h.1 ++ [.inl (t, N, .inr (.inr (.inr (.inr (fun _ => none)))))], h.2 + N) r h') : Rn l D ad tc L xs M d lo pc lv (.int n :: st) h r h' := by
  refine rn_make (x := .inl (t, N, .inr (.inr (.inr (.inr (fun _ => none)))))) (n := N) (fun p e R s m args below meth c H locs cells slots ls Q hF hc hs hP hS kw => ?_) kk
  obtain ⟨hx, hb, hml, hown, hts, hkw, hK, hX, hbl, hnm, hinj⟩ := hF
  subst hN
  refine W.anew hx hb hown (hts _ hw) (va_AO.use (hkw.2 C ho)) rfl hd rfl hn hby hc hs fun cA kA comp f1 f2 f3 f4 => ?_
  have h0 := hP.2 0
  have hcA : cA = tc t := by
    obtain ⟨kA', comp', g1, g2, g3, g4⟩ := (hK.2 t _ (j_ty_at ht)).2
    exact Option.some.inj (f1.symm.trans g4)
  subst hcA
  generalize hH1 : H.push ({ cls := tc t, slots := Array.replicate n.toNatClampNeg .null, vm := .none } : Cell) = H1
  have z1 : H1.size = H.size + 1 := by rw [← hH1, Array.size_push]
  have e1 : H1[H.size]? = some (arrV (tc t) n.toNatClampNeg (fun _ => .null)) := by rw [← hH1, Array.getElem?_push_size, ← arrV_new]
  have o1 : ∀ q : Nat, q < H.size → H1[q]? = H[q]? := fun q hq => by rw [← hH1, Array.getElem?_push, if_neg (Nat.ne_of_lt hq)]
  have hkw := kw H1 (j_push (n := n.toNatClampNeg) hP z1 o1 (x := .inl (t, n.toNatClampNeg, .inr (.inr (.inr (.inr (fun _ => none)))))) (by
      show H1[H.size]? = some (vp_cell (tc t) (n.toNatClampNeg, .inr (.inr (.inr (.inr (j_f ad (fun _ => none)))))))
      rw [vp_cell_q]
      exact e1)) ⟨Nat.le_trans hS.1 (by omega), fun q h1 h2 => (o1 q (Nat.lt_of_lt_of_le h1 hS.1)).trans (hS.2.1 q h1 h2), hS.2.2⟩
  show W p l e R s m args below meth c H1 locs (cells + 1) (slots + n.toNatClampNeg) Q (F0 m (pc + 3) ls (.ref H.size :: st.map (j_v ad)))
  rw [← show ad (h.1.length + 1) = H.size from h0]
  exact hkw
/-- an object into an array of its own class -/
theorem rn_aastore {a t n v ci : Nat} {f : Nat → Option Nat} {q : vw_C} {vs : List Value} {i : Int32} (hd : decode M.2.1 pc = .ok (.aastore, 1)) (he : h.1[a]? = some (.inl (t, n, .inr (.inr (.inr (.inr f)))))) (hc : j_cl[ci]? = some q) (ht : j_ty[t]? = some (.object q.1)) (hv : h.1[v]? = some (.inr (ci, vs))) (hin : vp_in i n)
    (kk : Rn l D ad tc L xs M d lo (pc + 1) lv st (h.1.set a (.inl (t, n, .inr (.inr (.inr (.inr (va_up f i.toNatClampNeg (some (v + 1)))))))), h.2) r h') : Rn l D ad tc L xs M d lo pc lv (.ref (v + 1) :: .int i :: .ref (a + 1) :: st) h r h' := by
  refine rn_cell (h2 := (h.1.set a (.inl (t, n, .inr (.inr (.inr (.inr (va_up f i.toNatClampNeg (some (v + 1)))))))), h.2)) (by simp) rfl (fun p e R s m args below meth c H locs cells slots ls Q hF hl hP hS kw => ?_) kk
  have hlt : i.toNatClampNeg < n := Nat.not_le.mp fun q => hin (Or.inr q)
  have h0 : ¬ i < 0 := fun q => hin (Or.inl q)
  have hK := hF.2.2.2.2.2.2.1
  obtain ⟨r', hr', cellV, g1, g2, g3, -⟩ := hP.1 v _ (j_w_get hv)
  have hcls := (hK.1 ci q hc).2
  obtain ⟨kA, comp, k1, k2, k3, -⟩ := (hK.2 t _ (j_ty_at ht)).2
  have hcomp : comp = D.1 ci := Option.some.inj (k3.symm.trans hcls.1)
  subst hcomp
  obtain ⟨kC, hkC, -⟩ := hcls.2
  have hcl : H[ad (a + 1)]? = some (vp_cell (tc t) (n, .inr (.inr (.inr (.inr (j_f ad f)))))) := hP.1 a _ (j_w_get he)
  refine W.aast hF.1 hF.2.1 hcl (fun q h => by cases h) (fun h => by cases h) k1 k2 rfl hkC ⟨h0, by show _ < (arrV _ _ _).slots.size; rw [arrV_size]; exact hlt⟩ g1 (fun q h => by rw [g3] at h; cases h) (by rw [g2]; exact hkC) (by rw [g2]; exact va_assign hcls) rfl rfl hd fun H1 e1 z oq => ?_
  refine kw H1 _ ⟨?_, fun j => by rw [List.length_set, z]; exact hP.2 j⟩ (hS.put z oq ⟨a, rfl⟩)
  have hset := hP.1.set (j_D hF.2.2.2.2.2.2.2.2.2.2) (j_w_get he) (e := .inl (tc t, n, .inr (.inr (.inr (.inr (j_f ad (va_up f i.toNatClampNeg (some (v + 1))))))))) (H1 := H1) ?_ oq
  · have e := j_w_set (ad := ad) (tc := tc) (G := h.1) (k := a) (c := .inl (t, n, .inr (.inr (.inr (.inr (va_up f i.toNatClampNeg (some (v + 1))))))))
    rw [← e]
    exact hset
  · show H1[ad (a + 1)]? = some (vp_cell _ _)
    rw [e1, vp_cell_q, arrV_store]
    refine (congrArg (fun g => some (arrV (tc t) n g)) (funext fun q => ?_) : some (arrV (tc t) n (updV (fun j => va_rf (j_f ad f j)) i.toNatClampNeg (.ref (ad (v + 1))))) = some (arrV (tc t) n (fun j => va_rf (j_f ad (va_up f i.toNatClampNeg (some (v + 1))) j))))
    by_cases hq : q = i.toNatClampNeg
    · subst hq
      simp [updV, va_up, va_rf, j_f]
    · simp [updV, va_up, j_f, hq]
end J5
end
section
/-! contracts and calls of the little machine -/
theorem j_good : ∀ w ∈ j_all, goodWord w = true := fun _ h => (List.mem_filter.mp h).2
def j_ws (M : j_M) : List Cond := Cond.code M.1 M.2.1 M.2.2.1 M.2.2.2 :: j_all
theorem j_GI {M : j_M} (hc : Cond.code M.1 M.2.1 M.2.2.1 M.2.2.2 ∈ j_all) : GoodIn j_all (j_ws M) := fun w h => by
  rcases List.mem_cons.mp h with rfl | h
  · exact ⟨hc, good_of_word (j_good _ hc)⟩
  · exact ⟨h, good_of_word (j_good _ h)⟩
def j_Q (D : va_G) (ad : Nat → Nat) (tc : Nat → ClassId) (r : Option Value) (h' : j_H) : Array Value → State → Outcome → State → Prop := fun _ st oc t => oc = .returned (r.map (j_v ad)) ∧ j_P D ad tc t.heap h' ∧ va_F (j_A ad) st t
def j_In (D : va_G) (ad : Nat → Nat) (tc : Nat → ClassId) (L : Nat) (xs : Nat → Int32) (h : j_H) : State → Prop := fun U => j_P D ad tc U.heap h ∧ va_K D j_cl (j_tys tc) U ∧ j_KW U ∧ va_X (ad 0) L xs U U.heap ∧ ad 0 < U.heap.size
/-- the contract of a method: called on As over the cells h, it returns r over the cells h' -/
def Cn (l : Launch) (D : va_G) (ad : Nat → Nat) (tc : Nat → ClassId) (L : Nat) (xs : Nat → Int32) (M : j_M) (d lo : Nat) (As : List Value) (h : j_H) (r : Option Value) (h' : j_H) : Prop :=
  (h.1.length ≤ h'.1.length ∧ h.2 ≤ h'.2) ∧ ((∀ i j, ad i = ad j → i = j) → Met l M.1 (j_ws M) { frames := d, cells := h'.1.length - h.1.length, slots := h'.2 - h.2, locals := lo } (va_Pc (As.map (j_v ad)) (j_In D ad tc L xs h)) (j_Q D ad tc r h') (h'.1.length - h.1.length) (h'.2 - h.2) (j_A ad))
theorem j_KW_moved {u U : State} (hW : u.WarmedH U.vm) (h : j_KW u) : j_KW U := ⟨fun w hw => va_Nw.warmM hW (h.1 w hw), fun C hC => (h.2 C hC).moved hW.alike⟩
theorem j_KW_same {u U : State} (hW : u.vm = U.vm) (ha : u.vm.Alike U.vm) (h : j_KW u) : j_KW U := ⟨fun w hw => va_Nw.same rfl hW (h.1 w hw), fun C hC => (h.2 C hC).moved ha⟩
theorem j_alike (U : State) (g : JFrame) (mk : MethodId) (a : Array Value) : U.vm.Alike (U.calling g mk a).vm := (State.WarmedH.refl U).alike
theorem j_blind {D : va_G} {ad : Nat → Nat} {tc : Nat → ClassId} {L : Nat} {xs : Nat → Int32} {av : List Value} {h : j_H} : FrameBlind (va_Pc av (j_In D ad tc L xs h)) := fun a U g mk q =>
  ⟨q.1, q.2.1, q.2.2.1.moved (j_alike U g mk a), j_KW_same rfl (j_alike U g mk a) q.2.2.2.1, q.2.2.2.2.1.moved (j_alike U g mk a), q.2.2.2.2.2⟩
/-- what a callee finds at its start -/
theorem j_at_call {D : va_G} {ad : Nat → Nat} {tc : Nat → ClassId} {L : Nat} {xs : Nat → Int32} {M : j_M} {p : Program} {s : State} {m : MethodId} {args : Array Value} {meth : Method} {c : Code} {h : j_H} {H : Heap} {locs : List Loc} (hF : j_Fix D ad tc L xs M p s m args meth c) (hP : j_P D ad tc H h) (hS : va_S (j_A ad) s.heap H locs) {U : State} (hU : U.heap = H) (hW : s.WarmedH U.vm) : j_In D ad tc L xs h U := by
  obtain ⟨hx, hb, hml, hown, hts, hkw, hK, hX, hbl, hnm, hinj⟩ := hF
  refine ⟨by rw [hU]; exact hP, hK.moved hW.alike, j_KW_moved hW hkw, ?_, ?_⟩
  · rw [hU]
    exact (hX.kept (hS.2.1 _ hbl (j_nA hinj))).moved hW.alike
  · rw [hU]
    exact Nat.lt_of_lt_of_le hbl hS.1
section J6
variable {l : Launch} {D : va_G} {ad : Nat → Nat} {tc : Nat → ClassId} {L : Nat} {xs : Nat → Int32} {M N : j_M} {d lo d' lo' pc idx n : Nat} {lv : j_L} {st As rest : List Value} {h h' h1 : j_H} {r rv : Option Value}
theorem j_run {p : Program} {e : Env} {R : Room} {s : State} {m : MethodId} {args : Array Value} {below : List Frame} {meth : Method} {c : Code} {H : Heap} {locs : List Loc} {cells slots mc ms : Nat} {ls : Array Slot} {Q : State → Prop} {a : Array Value} {st0 : List Value}
    (hF : j_Fix D ad tc L xs M p s m args meth c) (q1 : d ≤ R.frames) (q2 : lo ≤ R.locals) (q3 : mc ≤ R.cells) (q4 : ms ≤ R.slots) (q5 : cells + (h'.1.length - h.1.length) = mc) (q6 : slots + (h'.2 - h.2) = ms) (hl : j_lv ad ls M.2.2.1 lv) (hS : va_S (j_A ad) s.heap H locs)
    (hQ : ∀ (pcr : Nat) (lsr : Array Slot) (Hr : Heap) (locsr : List Loc) (ins : Instr), decode M.2.1 pcr = .ok (ins, 1) → j_ret ins r → j_P D ad tc Hr h' → va_S (j_A ad) s.heap Hr locsr → W p l e R s m args below meth c Hr locsr mc ms Q (F0 m pcr lsr (r.toList.map (j_v ad))))
    (hle : h.1.length ≤ h1.1.length ∧ h.2 ≤ h1.2) (hr : va_Run p l e R s m args below meth c H locs cells slots (h1.1.length - h.1.length) (h1.2 - h.2) (F0 m pc ls st0) (rest.map (j_v ad)) (j_Q D ad tc rv h1 a) (j_A ad))
    (k : Rn l D ad tc L xs M d lo (pc + 3) lv (rv.toList ++ rest) h1 r h') : W p l e R s m args below meth c H locs cells slots Q (F0 m pc ls st0) := by
  intro T hT X
  obtain ⟨v, st₀, t, T', L', g0, X', hL, e1, e2, ⟨hv, hP1, hz, hk⟩, stp⟩ := hr T hT X
  have hv : v = rv.map (j_v ad) := by injection hv
  subst hv
  rw [g0] at hz hk
  have hk0 := k.1
  obtain ⟨t2, a1, b1⟩ := k.2 p e R s m args below meth c T'.heap (locs ++ L') _ _ mc ms ls Q hF q1 q2 q3 q4 (by omega) (by omega) hl (by rw [e1]; exact hP1)
    ⟨Nat.le_trans hS.1 (by rw [e1]; exact hz), fun q h1 h2 => by rw [e1, hk q (Nat.lt_of_lt_of_le h1 hS.1) h2]; exact hS.2.1 q h1 h2, fun q hq => by
      rcases List.mem_append.mp hq with h | h
      · exact hS.2.2 q h
      · exact hL q h⟩ hQ T' rfl X'
  refine ⟨t2, stp t2 ?_, b1⟩
  rw [List.map_append] at a1
  have ee : (rv.map (j_v ad)).toList = rv.toList.map (j_v ad) := by cases rv <;> rfl
  rw [ee]
  exact a1
def j_nMH (M : j_M) : Prop := M.1.cls ≠ "java/lang/invoke/MethodHandle" ∧ M.1.cls ≠ "java/lang/invoke/VarHandle"
/-- what the tables say of a call: virtual (a private one too), by the own entry idx, of N with n arguments -/
def j_cv (own : String) (idx : Nat) (N : j_M) (n : Nat) : Prop := Cond.methodLink own idx N.1 ∈ j_all ∧ Cond.instanceMethod N.1 ∈ j_all ∧ Cond.selects N.1.cls N.1 N.1 ∈ j_all ∧ Cond.initialized N.1.cls ∈ j_all ∧ Cond.code N.1 N.2.1 N.2.2.1 N.2.2.2 ∈ j_all ∧ N.1.cls ≠ "java/lang/invoke/MethodHandle" ∧ N.1.cls ≠ "java/lang/invoke/VarHandle" ∧ (parseMethodDescriptor N.1.desc).map (fun d => d.parameters.length) = some n
theorem rn_callV {a ci : Nat} {q : vw_C} {fs : List Value} (hd : decode M.2.1 pc = .ok (.invokevirtual idx, 3)) (hw : j_cv M.1.cls idx N n) (hc : Cn l D ad tc L xs N d' lo' (.ref (a + 1) :: As) h rv h1) (hn : As.length = n) (he : h.1[a]? = some (.inr (ci, fs))) (hq : j_cl[ci]? = some q) (hq1 : q.1 = N.1.cls)
    (hd1 : d' + 1 ≤ d) (hlo : 8 + (N.2.2.1 + 11) + lo' ≤ lo) (hst : st = As.reverse ++ .ref (a + 1) :: rest) (hsum : (rest.map fun v => v.category).sum ≤ 8)
    (k : Rn l D ad tc L xs M d lo (pc + 3) lv (rv.toList ++ rest) h1 r h') : Rn l D ad tc L xs M d lo pc lv st h r h' := by
  subst hst
  refine ⟨⟨Nat.le_trans hc.1.1 k.1.1, Nat.le_trans hc.1.2 k.1.2⟩, fun p e R s m args below meth c H locs cells slots mc ms ls Q hF q1 q2 q3 q4 q5 q6 hl hP hS hQ => ?_⟩
  obtain ⟨w1, w2, w3, w4, w5, w6, w7, w8⟩ := hw
  have hts := hF.2.2.2.2.1
  have hk0 := k.1
  have hc0 := hc.1
  have hrec := va_recv hF.2.2.2.2.2.2.1 hP.1 hq (j_w_get he)
  refine j_run (a := (Value.ref (ad (a + 1)) :: As.map (j_v ad)).toArray) hF q1 q2 q3 q4 q5 q6 hl hS hQ hc.1 ?_ k
  refine va_runV (bytes := N.2.1) (maxL := N.2.2.1) (ret := N.2.2.2) (As := As.map (j_v ad)) (rest := rest.map (j_v ad)) (b := ad (a + 1)) (C := N.1.cls) (n := n) (Ts := j_all) (nL := M.2.2.1) ⟨hF.1, hF.2.1, hF.2.2.1, hF.2.2.2.1, hts⟩ (hc.2 hF.2.2.2.2.2.2.2.2.2.2) ?_ ⟨j_blind, by rw [← hq1]; exact hrec, fun U hU hW => ⟨rfl, j_at_call hF hP hS hU hW⟩⟩ rfl (by rw [List.length_map]; exact hn) hl.1 (by show List.map (j_v ad) (As.reverse ++ .ref (a + 1) :: rest) = _; rw [List.map_append, List.map_reverse]; rfl) (lv_room (by rw [List.map_map, show (Value.category ∘ j_v ad) = Value.category from funext fun v => j_cat v]; exact hsum)) hd ⟨by omega, by omega⟩
  exact ⟨⟨rfl, rfl, by show d' + 1 ≤ R.frames; omega, by show 8 + (N.2.2.1 + 11) + lo' ≤ R.locals; omega, pay_in hts (j_GI w5), List.mem_cons_self, hts _ w5, hts _ w4, ⟨w6, w7⟩, fun sig hs => by rw [hs] at w8; exact (Option.some.inj w8).symm, hts _ w1⟩, hts _ w2, hts _ w3⟩
def j_cs (own : String) (idx : Nat) (N : j_M) (n : Nat) : Prop := Cond.methodLink own idx N.1 ∈ j_all ∧ Cond.static N.1 ∈ j_all ∧ Cond.initialized N.1.cls ∈ j_all ∧ Cond.code N.1 N.2.1 N.2.2.1 N.2.2.2 ∈ j_all ∧ N.1.cls ≠ "java/lang/invoke/MethodHandle" ∧ N.1.cls ≠ "java/lang/invoke/VarHandle" ∧ (parseMethodDescriptor N.1.desc).map (fun d => d.parameters.length) = some n
theorem rn_callS (hd : decode M.2.1 pc = .ok (.invokestatic idx, 3)) (hw : j_cs M.1.cls idx N n) (hc : Cn l D ad tc L xs N d' lo' As h rv h1) (hn : As.length = n)
    (hd1 : d' + 1 ≤ d) (hlo : 8 + (N.2.2.1 + 11) + lo' ≤ lo) (hst : st = As.reverse ++ rest) (hsum : (rest.map fun v => v.category).sum ≤ 8)
    (k : Rn l D ad tc L xs M d lo (pc + 3) lv (rv.toList ++ rest) h1 r h') : Rn l D ad tc L xs M d lo pc lv st h r h' := by
  subst hst
  refine ⟨⟨Nat.le_trans hc.1.1 k.1.1, Nat.le_trans hc.1.2 k.1.2⟩, fun p e R s m args below meth c H locs cells slots mc ms ls Q hF q1 q2 q3 q4 q5 q6 hl hP hS hQ => ?_⟩
  have hts := hF.2.2.2.2.1
  have hk0 := k.1
  have hc0 := hc.1
  obtain ⟨w1, w2, w3, w4, w5, w6, w7⟩ := hw
  refine j_run (a := (As.map (j_v ad)).toArray) hF q1 q2 q3 q4 q5 q6 hl hS hQ hc.1 ?_ k
  refine va_runS (bytes := N.2.1) (maxL := N.2.2.1) (ret := N.2.2.2) (As := As.map (j_v ad)) (rest := rest.map (j_v ad)) (n := n) (Ts := j_all) (nL := M.2.2.1) ⟨hF.1, hF.2.1, hF.2.2.1, hF.2.2.2.1, hts⟩ (hc.2 hF.2.2.2.2.2.2.2.2.2.2) ?_ ⟨j_blind, fun U hU hW => ⟨rfl, j_at_call hF hP hS hU hW⟩⟩ rfl (by rw [List.length_map]; exact hn) hl.1 (by show List.map (j_v ad) (As.reverse ++ rest) = _; rw [List.map_append, List.map_reverse]) (lv_room (by rw [List.map_map, show (Value.category ∘ j_v ad) = Value.category from funext fun v => j_cat v]; exact hsum)) hd ⟨by omega, by omega⟩
  exact ⟨⟨rfl, rfl, by show d' + 1 ≤ R.frames; omega, by show 8 + (N.2.2.1 + 11) + lo' ≤ R.locals; omega, pay_in hts (j_GI w4), List.mem_cons_self, hts _ w4, hts _ w3, ⟨w5, w6⟩, fun sig hs => by rw [hs] at w7; exact (Option.some.inj w7).symm, hts _ w1⟩, hts _ w2⟩
def j_csn (own : String) (idx : Nat) (N : j_M) (n : Nat) (host : String) : Prop := (own, idx, N.1, host) ∈ j_nm ∧ Cond.static N.1 ∈ j_all ∧ Cond.initialized N.1.cls ∈ j_all ∧ Cond.code N.1 N.2.1 N.2.2.1 N.2.2.2 ∈ j_all ∧ N.1.cls ≠ "java/lang/invoke/MethodHandle" ∧ N.1.cls ≠ "java/lang/invoke/VarHandle" ∧ (parseMethodDescriptor N.1.desc).map (fun d => d.parameters.length) = some n
theorem rn_callSN {host : String} (hd : decode M.2.1 pc = .ok (.invokestatic idx, 3)) (hw : j_csn M.1.cls idx N n host) (hc : Cn l D ad tc L xs N d' lo' As h rv h1) (hn : As.length = n)
    (hd1 : d' + 1 ≤ d) (hlo : 8 + (N.2.2.1 + 11) + lo' ≤ lo) (hst : st = As.reverse ++ rest) (hsum : (rest.map fun v => v.category).sum ≤ 8)
    (k : Rn l D ad tc L xs M d lo (pc + 3) lv (rv.toList ++ rest) h1 r h') : Rn l D ad tc L xs M d lo pc lv st h r h' := by
  subst hst
  refine ⟨⟨Nat.le_trans hc.1.1 k.1.1, Nat.le_trans hc.1.2 k.1.2⟩, fun p e R s m args below meth c H locs cells slots mc ms ls Q hF q1 q2 q3 q4 q5 q6 hl hP hS hQ => ?_⟩
  have hts := hF.2.2.2.2.1
  have hk0 := k.1
  have hc0 := hc.1
  obtain ⟨w1, w2, w3, w4, w5, w6, w7⟩ := hw
  refine j_run (a := (As.map (j_v ad)).toArray) hF q1 q2 q3 q4 q5 q6 hl hS hQ hc.1 ?_ k
  refine va_runSN (bytes := N.2.1) (maxL := N.2.2.1) (ret := N.2.2.2) (As := As.map (j_v ad)) (rest := rest.map (j_v ad)) (n := n) (Ts := j_all) (nL := M.2.2.1) (host := host) ⟨hF.1, hF.2.1, hF.2.2.1, hF.2.2.2.1, hts⟩ (hc.2 hF.2.2.2.2.2.2.2.2.2.2) ?_ ⟨j_blind, fun U hU hW => ⟨rfl, j_at_call hF hP hS hU hW⟩⟩ rfl (by rw [List.length_map]; exact hn) hl.1 (by show List.map (j_v ad) (As.reverse ++ rest) = _; rw [List.map_append, List.map_reverse]) (lv_room (by rw [List.map_map, show (Value.category ∘ j_v ad) = Value.category from funext fun v => j_cat v]; exact hsum)) hd ⟨by omega, by omega⟩
  exact ⟨⟨⟨rfl, rfl, by show d' + 1 ≤ R.frames; omega, by show 8 + (N.2.2.1 + 11) + lo' ≤ R.locals; omega, pay_in hts (j_GI w4), List.mem_cons_self⟩, hts _ w4, hts _ w3, ⟨w5, w6⟩, fun sig hs => by rw [hs] at w7; exact (Option.some.inj w7).symm, va_Nw.use rfl (hF.2.2.2.2.2.1.1 _ w1)⟩, hts _ w2, trivial⟩
def j_ci (own : String) (idx : Nat) (N : j_M) (n : Nat) : Prop := Cond.methodLink own idx N.1 ∈ j_all ∧ Cond.instanceMethod N.1 ∈ j_all ∧ Cond.initialized N.1.cls ∈ j_all ∧ Cond.code N.1 N.2.1 N.2.2.1 N.2.2.2 ∈ j_all ∧ N.1.cls ≠ "java/lang/invoke/MethodHandle" ∧ N.1.cls ≠ "java/lang/invoke/VarHandle" ∧ (parseMethodDescriptor N.1.desc).map (fun d => d.parameters.length) = some n ∧ N.1.name = "<init>" ∧ N.2.2.2 = none
theorem rn_callI {a : Nat} (hd : decode M.2.1 pc = .ok (.invokespecial idx, 3)) (hw : j_ci M.1.cls idx N n) (hc : Cn l D ad tc L xs N d' lo' (.ref a :: As) h rv h1) (hn : As.length = n)
    (hd1 : d' + 1 ≤ d) (hlo : 8 + (N.2.2.1 + 11) + lo' ≤ lo) (hst : st = As.reverse ++ .ref a :: rest) (hsum : (rest.map fun v => v.category).sum ≤ 8)
    (k : Rn l D ad tc L xs M d lo (pc + 3) lv (rv.toList ++ rest) h1 r h') : Rn l D ad tc L xs M d lo pc lv st h r h' := by
  subst hst
  refine ⟨⟨Nat.le_trans hc.1.1 k.1.1, Nat.le_trans hc.1.2 k.1.2⟩, fun p e R s m args below meth c H locs cells slots mc ms ls Q hF q1 q2 q3 q4 q5 q6 hl hP hS hQ => ?_⟩
  have hts := hF.2.2.2.2.1
  have hk0 := k.1
  have hc0 := hc.1
  obtain ⟨w1, w2, w3, w4, w5, w6, w7, w8, w9⟩ := hw
  have hcm := hc.2 hF.2.2.2.2.2.2.2.2.2.2
  refine j_run (a := (Value.ref (ad a) :: As.map (j_v ad)).toArray) hF q1 q2 q3 q4 q5 q6 hl hS hQ hc.1 ?_ k
  refine va_runI (bytes := N.2.1) (maxL := N.2.2.1) (As := As.map (j_v ad)) (rest := rest.map (j_v ad)) (b := ad a) (n := n) (Ts := j_all) (nL := M.2.2.1) ⟨hF.1, hF.2.1, hF.2.2.1, hF.2.2.2.1, hts⟩ hcm ?_ ⟨j_blind, fun U hU hW => ⟨rfl, j_at_call hF hP hS hU hW⟩⟩ rfl (by rw [List.length_map]; exact hn) hl.1 (by show List.map (j_v ad) (As.reverse ++ .ref a :: rest) = _; rw [List.map_append, List.map_reverse]; rfl) (lv_room (by rw [List.map_map, show (Value.category ∘ j_v ad) = Value.category from funext fun v => j_cat v]; exact hsum)) hd ⟨by omega, by omega⟩
  rw [← w9]
  exact ⟨⟨rfl, rfl, by show d' + 1 ≤ R.frames; omega, by show 8 + (N.2.2.1 + 11) + lo' ≤ R.locals; omega, pay_in hts (j_GI w4), List.mem_cons_self, hts _ w4, hts _ w3, ⟨w5, w6⟩, fun sig hs => by rw [hs] at w7; exact (Option.some.inj w7).symm, hts _ w1⟩, w8, hts _ w2⟩
def j_cin (own : String) (idx : Nat) (N : j_M) (n : Nat) (host : String) : Prop := (own, idx, N.1, host) ∈ j_nm ∧ Cond.instanceMethod N.1 ∈ j_all ∧ Cond.initialized N.1.cls ∈ j_all ∧ Cond.code N.1 N.2.1 N.2.2.1 N.2.2.2 ∈ j_all ∧ N.1.cls ≠ "java/lang/invoke/MethodHandle" ∧ N.1.cls ≠ "java/lang/invoke/VarHandle" ∧ (parseMethodDescriptor N.1.desc).map (fun d => d.parameters.length) = some n ∧ N.1.name = "<init>" ∧ N.2.2.2 = none
theorem rn_callIN {a : Nat} {host : String} (hd : decode M.2.1 pc = .ok (.invokespecial idx, 3)) (hw : j_cin M.1.cls idx N n host) (hc : Cn l D ad tc L xs N d' lo' (.ref a :: As) h rv h1) (hn : As.length = n)
    (hd1 : d' + 1 ≤ d) (hlo : 8 + (N.2.2.1 + 11) + lo' ≤ lo) (hst : st = As.reverse ++ .ref a :: rest) (hsum : (rest.map fun v => v.category).sum ≤ 8)
    (k : Rn l D ad tc L xs M d lo (pc + 3) lv (rv.toList ++ rest) h1 r h') : Rn l D ad tc L xs M d lo pc lv st h r h' := by
  subst hst
  refine ⟨⟨Nat.le_trans hc.1.1 k.1.1, Nat.le_trans hc.1.2 k.1.2⟩, fun p e R s m args below meth c H locs cells slots mc ms ls Q hF q1 q2 q3 q4 q5 q6 hl hP hS hQ => ?_⟩
  have hts := hF.2.2.2.2.1
  have hk0 := k.1
  have hc0 := hc.1
  obtain ⟨w1, w2, w3, w4, w5, w6, w7, w8, w9⟩ := hw
  have hcm := hc.2 hF.2.2.2.2.2.2.2.2.2.2
  refine j_run (a := (Value.ref (ad a) :: As.map (j_v ad)).toArray) hF q1 q2 q3 q4 q5 q6 hl hS hQ hc.1 ?_ k
  refine va_runIN (bytes := N.2.1) (maxL := N.2.2.1) (host := host) (As := As.map (j_v ad)) (rest := rest.map (j_v ad)) (b := ad a) (n := n) (Ts := j_all) (nL := M.2.2.1) ⟨hF.1, hF.2.1, hF.2.2.1, hF.2.2.2.1, hts⟩ hcm ?_ ⟨j_blind, fun U hU hW => ⟨rfl, j_at_call hF hP hS hU hW⟩⟩ rfl (by rw [List.length_map]; exact hn) hl.1 (by show List.map (j_v ad) (As.reverse ++ .ref a :: rest) = _; rw [List.map_append, List.map_reverse]; rfl) (lv_room (by rw [List.map_map, show (Value.category ∘ j_v ad) = Value.category from funext fun v => j_cat v]; exact hsum)) hd ⟨by omega, by omega⟩
  rw [← w9]
  exact ⟨⟨⟨rfl, rfl, by show d' + 1 ≤ R.frames; omega, by show 8 + (N.2.2.1 + 11) + lo' ≤ R.locals; omega, pay_in hts (j_GI w4), List.mem_cons_self⟩, hts _ w4, hts _ w3, ⟨w5, w6⟩, fun sig hs => by rw [hs] at w7; exact (Option.some.inj w7).symm, va_Nw.use rfl (hF.2.2.2.2.2.1.1 _ w1)⟩, w8, hts _ w2⟩
/-- Object's constructor -/
theorem rn_objInit {a : Nat} (hd : decode M.2.1 pc = .ok (.invokespecial idx, 3)) (w1 : Cond.methodLink M.1.cls idx objectInit ∈ j_all) (w2 : Cond.instanceMethod objectInit ∈ j_all) (w3 : Cond.code objectInit ⟨#[0xb1]⟩ 1 none ∈ j_all) (hd1 : 1 ≤ d) (hlo : 20 ≤ lo) (hsum : (rest.map fun v => v.category).sum ≤ 8)
    (k : Rn l D ad tc L xs M d lo (pc + 3) lv rest h r h') : Rn l D ad tc L xs M d lo pc lv (.ref a :: rest) h r h' :=
  rn_pure (fun p e R s m args below meth c H locs cells slots ls Q hF q1 q2 hl hP hS kw => by
    have hts := hF.2.2.2.2.1
    have hro := lv_room (m := m) (pc := pc) (ls := ls) (rest := (Value.ref a :: rest).map (j_v ad)) (st := rest.map (j_v ad)) (by rw [List.map_map, show (Value.category ∘ j_v ad) = Value.category from funext fun v => j_cat v]; exact hsum)
    exact W.objInit (a := ad a) (rest := rest.map (j_v ad)) hF.1 hF.2.1 hF.2.2.2.1 (hts _ w1) (hts _ w2) (hts _ w3) rfl (hl.1.trans hF.2.2.1.symm) rfl hd (by omega) (by omega) kw) k
/-- the return -/
theorem rn_ret {ins : Instr} (hd : decode M.2.1 pc = .ok (ins, 1)) (hr : j_ret ins r) (hst : st = r.toList) : Rn l D ad tc L xs M d lo pc lv st h r h := by
  subst hst
  refine ⟨⟨Nat.le_refl _, Nat.le_refl _⟩, fun p e R s m args below meth c H locs cells slots mc ms ls Q hF q1 q2 q3 q4 q5 q6 hl hP hS hQ => ?_⟩
  have e1 : cells = mc := by omega
  have e2 : slots = ms := by omega
  subst e1
  subst e2
  exact hQ pc ls H locs ins hd hr hP hS
/-- the result is of the method's type -/
def j_rok (ret : Option FieldType) (r : Option Value) : Prop := match r with
  | none => ret = none
  | some (.int v) => ∃ ty, ret = some ty ∧ narrow ty (.int v) = .int v
  | some (.long _) => ret = some .long
  | some (.float _) => ret = some .float
  | some (.double _) => ret = some .double
  | some (.ref _) => ∃ rt, ret = some rt ∧ ((∃ n, rt = .object n) ∨ ∃ t, rt = .array t)
  | some .null => ∃ rt, ret = some rt ∧ ((∃ n, rt = .object n) ∨ ∃ t, rt = .array t)
  | _ => False
theorem cn_of {lv0 : j_L} (hy : plainName M.1.cls = true) (hok : j_rok M.2.2.2 r) (hlen : ∀ ad, (lg_sl (As.map (j_v ad))).length ≤ M.2.2.1) (hlv : ∀ ad, lv_args 0 (As.map (j_v ad)) = lv0.map (fun q : Nat × Value => (q.1, j_v ad q.2)))
    (k : Rn l D ad tc L xs M d lo 0 lv0 [] h r h') : Cn l D ad tc L xs M d lo As h r h' := by
  refine ⟨k.1, fun hinj => ?_⟩
  refine Met.ofW (cc := M.2.1) (maxL := M.2.2.1) (ret := M.2.2.2) hy rfl ?_
  intro p e s m args below meth c s₁ B hml hv
  obtain ⟨rfl, hP, hK, hkw, hX, hbl⟩ := hv
  have hts := atoms_spec (ws := j_ws M) B.pre
  have hown : s.vm.findClass M.1.cls = some m.cls := findClass_of_methodNamed B.named
  have hnm : meth.name = M.1.name := (name_of_methodNamed B.named B.method).1
  have hr := B.returns
  have hlocks := B.notSynchronized
  have hF : j_Fix D ad tc L xs M p s m (As.map (j_v ad)).toArray meth c := ⟨B.exec, B.bytes, hml, hown, fun w hw => hts w (List.mem_cons_of_mem _ hw), hkw, hK, hX, hbl, hnm, hinj⟩
  have hl := lv_entry (As.map (j_v ad)) (n := M.2.2.1) (hlen ad)
  rw [lg_entry_eq]
  generalize (lg_sl (As.map (j_v ad)) ++ List.replicate (M.2.2.1 - (lg_sl (As.map (j_v ad))).length) Slot.unset).toArray = ls at hl ⊢
  rw [hlv ad] at hl
  refine k.2 p e _ s m _ below meth c s.heap [] 0 0 (h'.1.length - h.1.length) (h'.2 - h.2) ls _ hF (Nat.le_refl _) (Nat.le_refl _) (Nat.le_refl _) (Nat.le_refl _) (by omega) (by omega) hl hP va_S.rf ?_
  intro pcr lsr Hr locsr ins hdr hret hPr hSr
  have hx := B.exec
  have hb := B.bytes
  have fin : ∀ t : State, t.heap = Hr → s.WarmedH t.vm → j_Q D ad tc r h' (As.map (j_v ad)).toArray s (.returned (r.map (j_v ad))) t := fun t ht _ => ⟨rfl, by rw [ht]; exact hPr, hSr.F ht⟩
  match r, ins, hret, hok, fin with
  | none, .return_, _, hok, fin => exact W.vret hx hb (hr.trans hok) fin hSr.2.2 hdr hlocks
  | some (.int v), .ireturn, _, ⟨ty, e1, e2⟩, fin => exact W.zret (ty := ty) hx hb (hr.trans e1) e2 fin hSr.2.2 hdr hlocks
  | some (.long v), .lreturn, _, hok, fin => exact W.lret hx hb (hr.trans hok) fin hSr.2.2 hdr hlocks
  | some (.float v), .freturn, _, hok, fin => exact W.fret hx hb (hr.trans hok) fin hSr.2.2 hdr hlocks
  | some (.double v), .dreturn, _, hok, fin => exact W.dret hx hb (hr.trans hok) fin hSr.2.2 hdr hlocks
  | some (.ref v), .areturn, _, ⟨rt, e1, e2⟩, fin => exact W.aret (rt := rt) hx hb (hr.trans e1) e2 (Or.inr ⟨_, rfl⟩) fin hSr.2.2 hdr hlocks
  | some .null, .areturn, _, ⟨rt, e1, e2⟩, fin => exact W.aret (rt := rt) hx hb (hr.trans e1) e2 (Or.inl rfl) fin hSr.2.2 hdr hlocks
end J6
end
