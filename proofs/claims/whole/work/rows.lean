section
-- ===== PART A: goes FIRST, ahead of the names: the tables' words, and 'selects' of the private methods out of them =====
/-- a private method of a class that the tables say can be made, by its rows of tables_1 -/
def lw_okq (q : MethodName × Nat) : Prop := (q.1.cls ≠ "java/lang/invoke/MethodHandle" ∧ q.1.cls ≠ "java/lang/invoke/VarHandle") ∧ Cond.instantiable q.1.cls q.2 ∈ tables_1 ∧ Cond.privateMethod q.1 ∈ tables_1 ∧ Cond.instanceMethod q.1 ∈ tables_1
theorem lw_p0 : lw_okq (⟨"SlackHall$Paths", "join", "(II)V"⟩, 6) := ⟨⟨by decide +kernel, by decide +kernel⟩, List.mem_of_getElem? (i := 229) (by decide +kernel), List.mem_of_getElem? (i := 382) (by decide +kernel), List.mem_of_getElem? (i := 383) (by decide +kernel)⟩
theorem lw_p1 : lw_okq (⟨"SlackHall$Paths", "check", "(I)V"⟩, 6) := ⟨⟨by decide +kernel, by decide +kernel⟩, List.mem_of_getElem? (i := 229) (by decide +kernel), List.mem_of_getElem? (i := 390) (by decide +kernel), List.mem_of_getElem? (i := 391) (by decide +kernel)⟩
theorem lw_p2 : lw_okq (⟨"SlackHall$Delays", "burden", "(IF)V"⟩, 4) := ⟨⟨by decide +kernel, by decide +kernel⟩, List.mem_of_getElem? (i := 256) (by decide +kernel), List.mem_of_getElem? (i := 438) (by decide +kernel), List.mem_of_getElem? (i := 439) (by decide +kernel)⟩
theorem lw_p3 : lw_okq (⟨"SlackHall$Timing", "settle", "(ILSlackHall$Corner;)V"⟩, 9) := ⟨⟨by decide +kernel, by decide +kernel⟩, List.mem_of_getElem? (i := 278) (by decide +kernel), List.mem_of_getElem? (i := 466) (by decide +kernel), List.mem_of_getElem? (i := 467) (by decide +kernel)⟩
theorem lw_p4 : lw_okq (⟨"SlackHall$Timing", "leftForLate", "(IILSlackHall$Corner;)D"⟩, 9) := ⟨⟨by decide +kernel, by decide +kernel⟩, List.mem_of_getElem? (i := 278) (by decide +kernel), List.mem_of_getElem? (i := 474) (by decide +kernel), List.mem_of_getElem? (i := 475) (by decide +kernel)⟩
theorem lw_p5 : lw_okq (⟨"SlackHall$Timing", "leftForEarly", "(IILSlackHall$Corner;)D"⟩, 9) := ⟨⟨by decide +kernel, by decide +kernel⟩, List.mem_of_getElem? (i := 278) (by decide +kernel), List.mem_of_getElem? (i := 494) (by decide +kernel), List.mem_of_getElem? (i := 495) (by decide +kernel)⟩
theorem lw_p6 : lw_okq (⟨"SlackHall$Timing", "lend", "(I)V"⟩, 9) := ⟨⟨by decide +kernel, by decide +kernel⟩, List.mem_of_getElem? (i := 278) (by decide +kernel), List.mem_of_getElem? (i := 502) (by decide +kernel), List.mem_of_getElem? (i := 503) (by decide +kernel)⟩
theorem lw_p7 : lw_okq (⟨"SlackHall$Timing", "depart", "(ILSlackHall$Corner;)V"⟩, 9) := ⟨⟨by decide +kernel, by decide +kernel⟩, List.mem_of_getElem? (i := 278) (by decide +kernel), List.mem_of_getElem? (i := 512) (by decide +kernel), List.mem_of_getElem? (i := 513) (by decide +kernel)⟩
theorem lw_p8 : lw_okq (⟨"SlackHall$Timing", "delayOf", "(IILSlackHall$Corner;)D"⟩, 9) := ⟨⟨by decide +kernel, by decide +kernel⟩, List.mem_of_getElem? (i := 278) (by decide +kernel), List.mem_of_getElem? (i := 516) (by decide +kernel), List.mem_of_getElem? (i := 517) (by decide +kernel)⟩
theorem lw_p9 : lw_okq (⟨"SlackHall$Timing", "pass", "(ILSlackHall$Corner;)V"⟩, 9) := ⟨⟨by decide +kernel, by decide +kernel⟩, List.mem_of_getElem? (i := 278) (by decide +kernel), List.mem_of_getElem? (i := 526) (by decide +kernel), List.mem_of_getElem? (i := 527) (by decide +kernel)⟩
theorem lw_p10 : lw_okq (⟨"SlackHall$Timing", "sourceOf", "(II)I"⟩, 9) := ⟨⟨by decide +kernel, by decide +kernel⟩, List.mem_of_getElem? (i := 278) (by decide +kernel), List.mem_of_getElem? (i := 531) (by decide +kernel), List.mem_of_getElem? (i := 532) (by decide +kernel)⟩
theorem lw_p11 : lw_okq (⟨"SlackHall$Timing", "beats", "(III)Z"⟩, 9) := ⟨⟨by decide +kernel, by decide +kernel⟩, List.mem_of_getElem? (i := 278) (by decide +kernel), List.mem_of_getElem? (i := 539) (by decide +kernel), List.mem_of_getElem? (i := 540) (by decide +kernel)⟩
theorem lw_p12 : lw_okq (⟨"java/lang/Throwable", "fillInStackTrace", "(I)Ljava/lang/Throwable;"⟩, 6) := ⟨⟨by decide +kernel, by decide +kernel⟩, List.mem_of_getElem? (i := 620) (by decide +kernel), List.mem_of_getElem? (i := 618) (by decide +kernel), List.mem_of_getElem? (i := 619) (by decide +kernel)⟩
theorem lw_p13 : lw_okq (⟨"SlackHall$Paths", "isSafe", "(II)Z"⟩, 6) := ⟨⟨by decide +kernel, by decide +kernel⟩, List.mem_of_getElem? (i := 229) (by decide +kernel), List.mem_of_getElem? (i := 677) (by decide +kernel), List.mem_of_getElem? (i := 678) (by decide +kernel)⟩
theorem lw_p14 : lw_okq (⟨"SlackHall", "digestNode", "(JI)J"⟩, 4) := ⟨⟨by decide +kernel, by decide +kernel⟩, List.mem_of_getElem? (i := 33) (by decide +kernel), List.mem_of_getElem? (i := 712) (by decide +kernel), List.mem_of_getElem? (i := 713) (by decide +kernel)⟩
theorem lw_p15 : lw_okq (⟨"SlackHall$Timing", "worstStart", "(I)I"⟩, 9) := ⟨⟨by decide +kernel, by decide +kernel⟩, List.mem_of_getElem? (i := 278) (by decide +kernel), List.mem_of_getElem? (i := 757) (by decide +kernel), List.mem_of_getElem? (i := 758) (by decide +kernel)⟩
def lw_privs_1 : List (MethodName × Nat) := [(⟨"SlackHall$Paths", "join", "(II)V"⟩, 6), (⟨"SlackHall$Paths", "check", "(I)V"⟩, 6), (⟨"SlackHall$Delays", "burden", "(IF)V"⟩, 4), (⟨"SlackHall$Timing", "settle", "(ILSlackHall$Corner;)V"⟩, 9), (⟨"SlackHall$Timing", "leftForLate", "(IILSlackHall$Corner;)D"⟩, 9), (⟨"SlackHall$Timing", "leftForEarly", "(IILSlackHall$Corner;)D"⟩, 9), (⟨"SlackHall$Timing", "lend", "(I)V"⟩, 9), (⟨"SlackHall$Timing", "depart", "(ILSlackHall$Corner;)V"⟩, 9), (⟨"SlackHall$Timing", "delayOf", "(IILSlackHall$Corner;)D"⟩, 9), (⟨"SlackHall$Timing", "pass", "(ILSlackHall$Corner;)V"⟩, 9), (⟨"SlackHall$Timing", "sourceOf", "(II)I"⟩, 9), (⟨"SlackHall$Timing", "beats", "(III)Z"⟩, 9), (⟨"java/lang/Throwable", "fillInStackTrace", "(I)Ljava/lang/Throwable;"⟩, 6), (⟨"SlackHall$Paths", "isSafe", "(II)Z"⟩, 6), (⟨"SlackHall", "digestNode", "(JI)J"⟩, 4), (⟨"SlackHall$Timing", "worstStart", "(I)I"⟩, 9)]
theorem lw_r1 : ∀ q ∈ lw_privs_1, lw_okq q := List.forall_mem_cons.mpr ⟨lw_p0, List.forall_mem_cons.mpr ⟨lw_p1, List.forall_mem_cons.mpr ⟨lw_p2, List.forall_mem_cons.mpr ⟨lw_p3, List.forall_mem_cons.mpr ⟨lw_p4, List.forall_mem_cons.mpr ⟨lw_p5, List.forall_mem_cons.mpr ⟨lw_p6, List.forall_mem_cons.mpr ⟨lw_p7, List.forall_mem_cons.mpr ⟨lw_p8, List.forall_mem_cons.mpr ⟨lw_p9, List.forall_mem_cons.mpr ⟨lw_p10, List.forall_mem_cons.mpr ⟨lw_p11, List.forall_mem_cons.mpr ⟨lw_p12, List.forall_mem_cons.mpr ⟨lw_p13, List.forall_mem_cons.mpr ⟨lw_p14, List.forall_mem_cons.mpr ⟨lw_p15, fun _ h => absurd h List.not_mem_nil⟩⟩⟩⟩⟩⟩⟩⟩⟩⟩⟩⟩⟩⟩⟩⟩
theorem lw_p16 : lw_okq (⟨"SlackHall", "mustBeOpen", "(Z)V"⟩, 4) := ⟨⟨by decide +kernel, by decide +kernel⟩, List.mem_of_getElem? (i := 33) (by decide +kernel), List.mem_of_getElem? (i := 775) (by decide +kernel), List.mem_of_getElem? (i := 776) (by decide +kernel)⟩
theorem lw_p17 : lw_okq (⟨"SlackHall", "mustBePair", "(II)V"⟩, 4) := ⟨⟨by decide +kernel, by decide +kernel⟩, List.mem_of_getElem? (i := 33) (by decide +kernel), List.mem_of_getElem? (i := 912) (by decide +kernel), List.mem_of_getElem? (i := 913) (by decide +kernel)⟩
theorem lw_p18 : lw_okq (⟨"java/util/ArrayList", "add", "(Ljava/lang/Object;[Ljava/lang/Object;I)V"⟩, 3) := ⟨⟨by decide +kernel, by decide +kernel⟩, List.mem_of_getElem? (i := 980) (by decide +kernel), List.mem_of_getElem? (i := 1013) (by decide +kernel), List.mem_of_getElem? (i := 1014) (by decide +kernel)⟩
theorem lw_p19 : lw_okq (⟨"java/util/ArrayList", "grow", "()[Ljava/lang/Object;"⟩, 3) := ⟨⟨by decide +kernel, by decide +kernel⟩, List.mem_of_getElem? (i := 980) (by decide +kernel), List.mem_of_getElem? (i := 1017) (by decide +kernel), List.mem_of_getElem? (i := 1018) (by decide +kernel)⟩
theorem lw_p20 : lw_okq (⟨"java/util/ArrayList", "grow", "(I)[Ljava/lang/Object;"⟩, 3) := ⟨⟨by decide +kernel, by decide +kernel⟩, List.mem_of_getElem? (i := 980) (by decide +kernel), List.mem_of_getElem? (i := 1021) (by decide +kernel), List.mem_of_getElem? (i := 1022) (by decide +kernel)⟩
theorem lw_p21 : lw_okq (⟨"SlackHallModel", "start", "(ZI)Z"⟩, 7) := ⟨⟨by decide +kernel, by decide +kernel⟩, List.mem_of_getElem? (i := 974) (by decide +kernel), List.mem_of_getElem? (i := 1110) (by decide +kernel), List.mem_of_getElem? (i := 1111) (by decide +kernel)⟩
theorem lw_p22 : lw_okq (⟨"SlackHallModel", "refuse", "(ZI)Z"⟩, 7) := ⟨⟨by decide +kernel, by decide +kernel⟩, List.mem_of_getElem? (i := 974) (by decide +kernel), List.mem_of_getElem? (i := 1114) (by decide +kernel), List.mem_of_getElem? (i := 1115) (by decide +kernel)⟩
theorem lw_p23 : lw_okq (⟨"SlackHallModel", "isNoClock", "(I)Z"⟩, 7) := ⟨⟨by decide +kernel, by decide +kernel⟩, List.mem_of_getElem? (i := 974) (by decide +kernel), List.mem_of_getElem? (i := 1125) (by decide +kernel), List.mem_of_getElem? (i := 1126) (by decide +kernel)⟩
theorem lw_p24 : lw_okq (⟨"SlackHallModel", "isNoNode", "(I)Z"⟩, 7) := ⟨⟨by decide +kernel, by decide +kernel⟩, List.mem_of_getElem? (i := 974) (by decide +kernel), List.mem_of_getElem? (i := 1152) (by decide +kernel), List.mem_of_getElem? (i := 1153) (by decide +kernel)⟩
theorem lw_p25 : lw_okq (⟨"SlackHallModel", "kind", "(I)I"⟩, 7) := ⟨⟨by decide +kernel, by decide +kernel⟩, List.mem_of_getElem? (i := 974) (by decide +kernel), List.mem_of_getElem? (i := 1156) (by decide +kernel), List.mem_of_getElem? (i := 1157) (by decide +kernel)⟩
theorem lw_p26 : lw_okq (⟨"SlackHallModel", "loadOf", "(I)F"⟩, 7) := ⟨⟨by decide +kernel, by decide +kernel⟩, List.mem_of_getElem? (i := 974) (by decide +kernel), List.mem_of_getElem? (i := 1175) (by decide +kernel), List.mem_of_getElem? (i := 1176) (by decide +kernel)⟩
theorem lw_p27 : lw_okq (⟨"SlackHallModel", "isStart", "(I)Z"⟩, 7) := ⟨⟨by decide +kernel, by decide +kernel⟩, List.mem_of_getElem? (i := 974) (by decide +kernel), List.mem_of_getElem? (i := 1235) (by decide +kernel), List.mem_of_getElem? (i := 1236) (by decide +kernel)⟩
theorem lw_p28 : lw_okq (⟨"SlackHallModel", "isEnd", "(I)Z"⟩, 7) := ⟨⟨by decide +kernel, by decide +kernel⟩, List.mem_of_getElem? (i := 974) (by decide +kernel), List.mem_of_getElem? (i := 1239) (by decide +kernel), List.mem_of_getElem? (i := 1240) (by decide +kernel)⟩
theorem lw_p29 : lw_okq (⟨"SlackHallModel", "toldOfNode", "(II)I"⟩, 7) := ⟨⟨by decide +kernel, by decide +kernel⟩, List.mem_of_getElem? (i := 974) (by decide +kernel), List.mem_of_getElem? (i := 1259) (by decide +kernel), List.mem_of_getElem? (i := 1260) (by decide +kernel)⟩
theorem lw_p30 : lw_okq (⟨"SlackHallModel", "takesOf", "(II)D"⟩, 7) := ⟨⟨by decide +kernel, by decide +kernel⟩, List.mem_of_getElem? (i := 974) (by decide +kernel), List.mem_of_getElem? (i := 1274) (by decide +kernel), List.mem_of_getElem? (i := 1275) (by decide +kernel)⟩
theorem lw_p31 : lw_okq (⟨"SlackHallModel", "isNoCorner", "(I)Z"⟩, 7) := ⟨⟨by decide +kernel, by decide +kernel⟩, List.mem_of_getElem? (i := 974) (by decide +kernel), List.mem_of_getElem? (i := 1292) (by decide +kernel), List.mem_of_getElem? (i := 1293) (by decide +kernel)⟩
def lw_privs_2 : List (MethodName × Nat) := [(⟨"SlackHall", "mustBeOpen", "(Z)V"⟩, 4), (⟨"SlackHall", "mustBePair", "(II)V"⟩, 4), (⟨"java/util/ArrayList", "add", "(Ljava/lang/Object;[Ljava/lang/Object;I)V"⟩, 3), (⟨"java/util/ArrayList", "grow", "()[Ljava/lang/Object;"⟩, 3), (⟨"java/util/ArrayList", "grow", "(I)[Ljava/lang/Object;"⟩, 3), (⟨"SlackHallModel", "start", "(ZI)Z"⟩, 7), (⟨"SlackHallModel", "refuse", "(ZI)Z"⟩, 7), (⟨"SlackHallModel", "isNoClock", "(I)Z"⟩, 7), (⟨"SlackHallModel", "isNoNode", "(I)Z"⟩, 7), (⟨"SlackHallModel", "kind", "(I)I"⟩, 7), (⟨"SlackHallModel", "loadOf", "(I)F"⟩, 7), (⟨"SlackHallModel", "isStart", "(I)Z"⟩, 7), (⟨"SlackHallModel", "isEnd", "(I)Z"⟩, 7), (⟨"SlackHallModel", "toldOfNode", "(II)I"⟩, 7), (⟨"SlackHallModel", "takesOf", "(II)D"⟩, 7), (⟨"SlackHallModel", "isNoCorner", "(I)Z"⟩, 7)]
theorem lw_r2 : ∀ q ∈ lw_privs_2, lw_okq q := List.forall_mem_cons.mpr ⟨lw_p16, List.forall_mem_cons.mpr ⟨lw_p17, List.forall_mem_cons.mpr ⟨lw_p18, List.forall_mem_cons.mpr ⟨lw_p19, List.forall_mem_cons.mpr ⟨lw_p20, List.forall_mem_cons.mpr ⟨lw_p21, List.forall_mem_cons.mpr ⟨lw_p22, List.forall_mem_cons.mpr ⟨lw_p23, List.forall_mem_cons.mpr ⟨lw_p24, List.forall_mem_cons.mpr ⟨lw_p25, List.forall_mem_cons.mpr ⟨lw_p26, List.forall_mem_cons.mpr ⟨lw_p27, List.forall_mem_cons.mpr ⟨lw_p28, List.forall_mem_cons.mpr ⟨lw_p29, List.forall_mem_cons.mpr ⟨lw_p30, List.forall_mem_cons.mpr ⟨lw_p31, fun _ h => absurd h List.not_mem_nil⟩⟩⟩⟩⟩⟩⟩⟩⟩⟩⟩⟩⟩⟩⟩⟩
theorem lw_p32 : lw_okq (⟨"SlackHallModel$Look", "borrowed", "(I)D"⟩, 6) := ⟨⟨by decide +kernel, by decide +kernel⟩, List.mem_of_getElem? (i := 1296) (by decide +kernel), List.mem_of_getElem? (i := 1308) (by decide +kernel), List.mem_of_getElem? (i := 1309) (by decide +kernel)⟩
theorem lw_p33 : lw_okq (⟨"SlackHallModel", "isChecked", "(II)Z"⟩, 7) := ⟨⟨by decide +kernel, by decide +kernel⟩, List.mem_of_getElem? (i := 974) (by decide +kernel), List.mem_of_getElem? (i := 1313) (by decide +kernel), List.mem_of_getElem? (i := 1314) (by decide +kernel)⟩
theorem lw_p34 : lw_okq (⟨"SlackHallModel", "winnerOf", "(II)I"⟩, 7) := ⟨⟨by decide +kernel, by decide +kernel⟩, List.mem_of_getElem? (i := 974) (by decide +kernel), List.mem_of_getElem? (i := 1317) (by decide +kernel), List.mem_of_getElem? (i := 1318) (by decide +kernel)⟩
theorem lw_p35 : lw_okq (⟨"SlackHallModel", "isMet", "(II)Z"⟩, 7) := ⟨⟨by decide +kernel, by decide +kernel⟩, List.mem_of_getElem? (i := 974) (by decide +kernel), List.mem_of_getElem? (i := 1327) (by decide +kernel), List.mem_of_getElem? (i := 1328) (by decide +kernel)⟩
theorem lw_p36 : lw_okq (⟨"SlackHallModel", "waysTo", "(II)I"⟩, 7) := ⟨⟨by decide +kernel, by decide +kernel⟩, List.mem_of_getElem? (i := 974) (by decide +kernel), List.mem_of_getElem? (i := 1331) (by decide +kernel), List.mem_of_getElem? (i := 1332) (by decide +kernel)⟩
theorem lw_p37 : lw_okq (⟨"SlackHallModel", "groupOf", "(I)I"⟩, 7) := ⟨⟨by decide +kernel, by decide +kernel⟩, List.mem_of_getElem? (i := 974) (by decide +kernel), List.mem_of_getElem? (i := 1335) (by decide +kernel), List.mem_of_getElem? (i := 1336) (by decide +kernel)⟩
theorem lw_p38 : lw_okq (⟨"SlackHallModel", "factor", "(IZ)D"⟩, 7) := ⟨⟨by decide +kernel, by decide +kernel⟩, List.mem_of_getElem? (i := 974) (by decide +kernel), List.mem_of_getElem? (i := 1345) (by decide +kernel), List.mem_of_getElem? (i := 1346) (by decide +kernel)⟩
theorem lw_p39 : lw_okq (⟨"SlackHallModel$Look", "arrivals", "(IZ)[[D"⟩, 6) := ⟨⟨by decide +kernel, by decide +kernel⟩, List.mem_of_getElem? (i := 1296) (by decide +kernel), List.mem_of_getElem? (i := 1355) (by decide +kernel), List.mem_of_getElem? (i := 1356) (by decide +kernel)⟩
theorem lw_p40 : lw_okq (⟨"SlackHallModel", "isNoPair", "(II)Z"⟩, 7) := ⟨⟨by decide +kernel, by decide +kernel⟩, List.mem_of_getElem? (i := 974) (by decide +kernel), List.mem_of_getElem? (i := 1407) (by decide +kernel), List.mem_of_getElem? (i := 1408) (by decide +kernel)⟩
theorem lw_p41 : lw_okq (⟨"SlackHallModel", "isOdd", "(II)Z"⟩, 7) := ⟨⟨by decide +kernel, by decide +kernel⟩, List.mem_of_getElem? (i := 974) (by decide +kernel), List.mem_of_getElem? (i := 1411) (by decide +kernel), List.mem_of_getElem? (i := 1412) (by decide +kernel)⟩
theorem lw_p42 : lw_okq (⟨"SlackHallModel", "leftOf", "(IIIZ)D"⟩, 7) := ⟨⟨by decide +kernel, by decide +kernel⟩, List.mem_of_getElem? (i := 974) (by decide +kernel), List.mem_of_getElem? (i := 1419) (by decide +kernel), List.mem_of_getElem? (i := 1420) (by decide +kernel)⟩
theorem lw_p43 : lw_okq (⟨"SlackHallModel", "leftIn", "(IIZ)D"⟩, 7) := ⟨⟨by decide +kernel, by decide +kernel⟩, List.mem_of_getElem? (i := 974) (by decide +kernel), List.mem_of_getElem? (i := 1432) (by decide +kernel), List.mem_of_getElem? (i := 1433) (by decide +kernel)⟩
theorem lw_p44 : lw_okq (⟨"SlackHallModel", "borrowOf", "(II)D"⟩, 7) := ⟨⟨by decide +kernel, by decide +kernel⟩, List.mem_of_getElem? (i := 974) (by decide +kernel), List.mem_of_getElem? (i := 1445) (by decide +kernel), List.mem_of_getElem? (i := 1446) (by decide +kernel)⟩
theorem lw_p45 : lw_okq (⟨"SlackHallModel", "worstOf", "(II)I"⟩, 7) := ⟨⟨by decide +kernel, by decide +kernel⟩, List.mem_of_getElem? (i := 974) (by decide +kernel), List.mem_of_getElem? (i := 1457) (by decide +kernel), List.mem_of_getElem? (i := 1458) (by decide +kernel)⟩
theorem lw_p46 : lw_okq (⟨"SlackHallModel", "told", "(I)I"⟩, 7) := ⟨⟨by decide +kernel, by decide +kernel⟩, List.mem_of_getElem? (i := 974) (by decide +kernel), List.mem_of_getElem? (i := 1468) (by decide +kernel), List.mem_of_getElem? (i := 1469) (by decide +kernel)⟩
theorem lw_p47 : lw_okq (⟨"SlackHallModel", "lacking", "(Z)I"⟩, 7) := ⟨⟨by decide +kernel, by decide +kernel⟩, List.mem_of_getElem? (i := 974) (by decide +kernel), List.mem_of_getElem? (i := 1472) (by decide +kernel), List.mem_of_getElem? (i := 1473) (by decide +kernel)⟩
def lw_privs_3 : List (MethodName × Nat) := [(⟨"SlackHallModel$Look", "borrowed", "(I)D"⟩, 6), (⟨"SlackHallModel", "isChecked", "(II)Z"⟩, 7), (⟨"SlackHallModel", "winnerOf", "(II)I"⟩, 7), (⟨"SlackHallModel", "isMet", "(II)Z"⟩, 7), (⟨"SlackHallModel", "waysTo", "(II)I"⟩, 7), (⟨"SlackHallModel", "groupOf", "(I)I"⟩, 7), (⟨"SlackHallModel", "factor", "(IZ)D"⟩, 7), (⟨"SlackHallModel$Look", "arrivals", "(IZ)[[D"⟩, 6), (⟨"SlackHallModel", "isNoPair", "(II)Z"⟩, 7), (⟨"SlackHallModel", "isOdd", "(II)Z"⟩, 7), (⟨"SlackHallModel", "leftOf", "(IIIZ)D"⟩, 7), (⟨"SlackHallModel", "leftIn", "(IIZ)D"⟩, 7), (⟨"SlackHallModel", "borrowOf", "(II)D"⟩, 7), (⟨"SlackHallModel", "worstOf", "(II)I"⟩, 7), (⟨"SlackHallModel", "told", "(I)I"⟩, 7), (⟨"SlackHallModel", "lacking", "(Z)I"⟩, 7)]
theorem lw_r3 : ∀ q ∈ lw_privs_3, lw_okq q := List.forall_mem_cons.mpr ⟨lw_p32, List.forall_mem_cons.mpr ⟨lw_p33, List.forall_mem_cons.mpr ⟨lw_p34, List.forall_mem_cons.mpr ⟨lw_p35, List.forall_mem_cons.mpr ⟨lw_p36, List.forall_mem_cons.mpr ⟨lw_p37, List.forall_mem_cons.mpr ⟨lw_p38, List.forall_mem_cons.mpr ⟨lw_p39, List.forall_mem_cons.mpr ⟨lw_p40, List.forall_mem_cons.mpr ⟨lw_p41, List.forall_mem_cons.mpr ⟨lw_p42, List.forall_mem_cons.mpr ⟨lw_p43, List.forall_mem_cons.mpr ⟨lw_p44, List.forall_mem_cons.mpr ⟨lw_p45, List.forall_mem_cons.mpr ⟨lw_p46, List.forall_mem_cons.mpr ⟨lw_p47, fun _ h => absurd h List.not_mem_nil⟩⟩⟩⟩⟩⟩⟩⟩⟩⟩⟩⟩⟩⟩⟩⟩
theorem lw_p48 : lw_okq (⟨"SlackHallModel", "isLacking", "(IZ)Z"⟩, 7) := ⟨⟨by decide +kernel, by decide +kernel⟩, List.mem_of_getElem? (i := 974) (by decide +kernel), List.mem_of_getElem? (i := 1476) (by decide +kernel), List.mem_of_getElem? (i := 1477) (by decide +kernel)⟩
theorem lw_p49 : lw_okq (⟨"SlackHallModel", "pairs", "(I)I"⟩, 7) := ⟨⟨by decide +kernel, by decide +kernel⟩, List.mem_of_getElem? (i := 974) (by decide +kernel), List.mem_of_getElem? (i := 1480) (by decide +kernel), List.mem_of_getElem? (i := 1481) (by decide +kernel)⟩
theorem lw_p50 : lw_okq (⟨"SlackHallModel", "leastOf", "(Z)D"⟩, 7) := ⟨⟨by decide +kernel, by decide +kernel⟩, List.mem_of_getElem? (i := 974) (by decide +kernel), List.mem_of_getElem? (i := 1488) (by decide +kernel), List.mem_of_getElem? (i := 1489) (by decide +kernel)⟩
theorem lw_p51 : lw_okq (⟨"SlackHallModel", "leastBy", "(II)D"⟩, 7) := ⟨⟨by decide +kernel, by decide +kernel⟩, List.mem_of_getElem? (i := 974) (by decide +kernel), List.mem_of_getElem? (i := 1498) (by decide +kernel), List.mem_of_getElem? (i := 1499) (by decide +kernel)⟩
theorem lw_p52 : lw_okq (⟨"SlackHallModel", "bestOf", "()I"⟩, 7) := ⟨⟨by decide +kernel, by decide +kernel⟩, List.mem_of_getElem? (i := 974) (by decide +kernel), List.mem_of_getElem? (i := 1506) (by decide +kernel), List.mem_of_getElem? (i := 1507) (by decide +kernel)⟩
theorem lw_p53 : lw_okq (⟨"SlackHallModel", "isUnder", "(II)Z"⟩, 7) := ⟨⟨by decide +kernel, by decide +kernel⟩, List.mem_of_getElem? (i := 974) (by decide +kernel), List.mem_of_getElem? (i := 1514) (by decide +kernel), List.mem_of_getElem? (i := 1515) (by decide +kernel)⟩
def lw_privs_4 : List (MethodName × Nat) := [(⟨"SlackHallModel", "isLacking", "(IZ)Z"⟩, 7), (⟨"SlackHallModel", "pairs", "(I)I"⟩, 7), (⟨"SlackHallModel", "leastOf", "(Z)D"⟩, 7), (⟨"SlackHallModel", "leastBy", "(II)D"⟩, 7), (⟨"SlackHallModel", "bestOf", "()I"⟩, 7), (⟨"SlackHallModel", "isUnder", "(II)Z"⟩, 7)]
theorem lw_r4 : ∀ q ∈ lw_privs_4, lw_okq q := List.forall_mem_cons.mpr ⟨lw_p48, List.forall_mem_cons.mpr ⟨lw_p49, List.forall_mem_cons.mpr ⟨lw_p50, List.forall_mem_cons.mpr ⟨lw_p51, List.forall_mem_cons.mpr ⟨lw_p52, List.forall_mem_cons.mpr ⟨lw_p53, fun _ h => absurd h List.not_mem_nil⟩⟩⟩⟩⟩⟩
def lw_privs : List (MethodName × Nat) := lw_privs_1 ++ (lw_privs_2 ++ (lw_privs_3 ++ (lw_privs_4)))
def lw_tbl : List Cond := k2_sels lw_privs ++ tables_1
theorem lw_privs_ok : ∀ q ∈ lw_privs, lw_okq q := by
  show ∀ q ∈ lw_privs_1 ++ (lw_privs_2 ++ (lw_privs_3 ++ (lw_privs_4))), lw_okq q
  exact List.forall_mem_append.mpr ⟨lw_r1, List.forall_mem_append.mpr ⟨lw_r2, List.forall_mem_append.mpr ⟨lw_r3, lw_r4⟩⟩⟩
/-- the streams that the claim lets the run draw from -/
abbrev lw_cs : List Choice := [Jvm.Choice.named "NaN.bits"]
theorem lw_bits : nanBits ∈ lw_cs := by first | decide | exact List.mem_cons_self | simp [lw_cs, nanBits]
end
section
def RX0 : String := "SlackHall$Analysis"
def TX0 : u_T := fun k => match k with
  | 0 => ("SlackHall$Analysis", "chip", "LSlackHall$Chip;", true)
  | 1 => ("SlackHall$Analysis", "paths", "LSlackHall$Paths;", true)
  | 2 => ("SlackHall$Analysis", "delays", "LSlackHall$Delays;", true)
  | 3 => ("SlackHall$Analysis", "lates", "[LSlackHall$Timing;", true)
  | 4 => ("SlackHall$Analysis", "earlies", "[LSlackHall$Timing;", true)
  | 5 => ("SlackHall$Analysis", "trialDelays", "LSlackHall$Delays;", true)
  | _ => ("SlackHall$Analysis", "trial", "LSlackHall$Timing;", true)
def tyX0 : Nat → FieldType := fun k => match k with
  | 0 => .object "SlackHall$Chip"
  | 1 => .object "SlackHall$Paths"
  | 2 => .object "SlackHall$Delays"
  | 3 => .array (.object "SlackHall$Timing")
  | 4 => .array (.object "SlackHall$Timing")
  | 5 => .object "SlackHall$Delays"
  | _ => .object "SlackHall$Timing"
abbrev wsX00 : List Cond := u_ws RX0 TX0 7
theorem nmX0 : ∀ a, a < 7 → ∀ b, b < 7 → a ≠ b → (TX0 a).2.1 ≠ (TX0 b).2.1 := by decide +kernel
theorem tyX0_ok : ∀ k, k < 7 → parseFieldDescriptor (TX0 k).2.2.1 = some (tyX0 k) := by decide +kernel
def RX1 : String := "SlackHall$Chip"
def TX1 : u_T := fun k => match k with
  | 0 => ("SlackHall$Chip", "clocks", "[LSlackHall$Clock;", true)
  | 1 => ("SlackHall$Chip", "corners", "[LSlackHall$Corner;", true)
  | 2 => ("SlackHall$Chip", "nodes", "[LSlackHall$Node;", true)
  | 3 => ("SlackHall$Chip", "rules", "[LSlackHall$Rule;", true)
  | 4 => ("SlackHall$Chip", "clockCount", "I", false)
  | 5 => ("SlackHall$Chip", "cornerCount", "I", false)
  | 6 => ("SlackHall$Chip", "nodeCount", "I", false)
  | _ => ("SlackHall$Chip", "ruleCount", "I", false)
def tyX1 : Nat → FieldType := fun k => match k with
  | 0 => .array (.object "SlackHall$Clock")
  | 1 => .array (.object "SlackHall$Corner")
  | 2 => .array (.object "SlackHall$Node")
  | 3 => .array (.object "SlackHall$Rule")
  | 4 => .int
  | 5 => .int
  | 6 => .int
  | _ => .int
abbrev wsX10 : List Cond := u_ws RX1 TX1 8
theorem nmX1 : ∀ a, a < 8 → ∀ b, b < 8 → a ≠ b → (TX1 a).2.1 ≠ (TX1 b).2.1 := by decide +kernel
theorem tyX1_ok : ∀ k, k < 8 → parseFieldDescriptor (TX1 k).2.2.1 = some (tyX1 k) := by decide +kernel
def RX2 : String := "SlackHall$Clock"
def TX2 : u_T := fun k => match k with
  | 0 => ("SlackHall$Clock", "period", "I", false)
  | 1 => ("SlackHall$Clock", "latency", "I", false)
  | 2 => ("SlackHall$Clock", "unsure", "I", false)
  | 3 => ("SlackHall$Clock", "group", "I", false)
  | _ => ("SlackHall$Clock", "root", "I", false)
def tyX2 : Nat → FieldType := fun k => match k with
  | 0 => .int
  | 1 => .int
  | 2 => .int
  | 3 => .int
  | _ => .int
abbrev wsX20 : List Cond := u_ws RX2 TX2 5
theorem nmX2 : ∀ a, a < 5 → ∀ b, b < 5 → a ≠ b → (TX2 a).2.1 ≠ (TX2 b).2.1 := by decide +kernel
theorem tyX2_ok : ∀ k, k < 5 → parseFieldDescriptor (TX2 k).2.2.1 = some (tyX2 k) := by decide +kernel
def RX3 : String := "SlackHall$Corner"
def TX3 : u_T := fun k => match k with
  | 0 => ("SlackHall$Corner", "late", "D", false)
  | _ => ("SlackHall$Corner", "early", "D", false)
def tyX3 : Nat → FieldType := fun k => match k with
  | 0 => .double
  | _ => .double
abbrev wsX30 : List Cond := u_ws RX3 TX3 2
theorem nmX3 : ∀ a, a < 2 → ∀ b, b < 2 → a ≠ b → (TX3 a).2.1 ≠ (TX3 b).2.1 := by decide +kernel
theorem tyX3_ok : ∀ k, k < 2 → parseFieldDescriptor (TX3 k).2.2.1 = some (tyX3 k) := by decide +kernel
def RX4 : String := "SlackHall$Delays"
def TX4 : u_T := fun k => match k with
  | 0 => ("SlackHall$Delays", "chip", "LSlackHall$Chip;", true)
  | 1 => ("SlackHall$Delays", "loads", "[F", true)
  | 2 => ("SlackHall$Delays", "rises", "[D", true)
  | _ => ("SlackHall$Delays", "isFresh", "Z", false)
def tyX4 : Nat → FieldType := fun k => match k with
  | 0 => .object "SlackHall$Chip"
  | 1 => .array .float
  | 2 => .array .double
  | _ => .boolean
abbrev wsX40 : List Cond := u_ws RX4 TX4 4
theorem nmX4 : ∀ a, a < 4 → ∀ b, b < 4 → a ≠ b → (TX4 a).2.1 ≠ (TX4 b).2.1 := by decide +kernel
theorem tyX4_ok : ∀ k, k < 4 → parseFieldDescriptor (TX4 k).2.2.1 = some (tyX4 k) := by decide +kernel
def RX5 : String := "SlackHall$Node"
def TX5 : u_T := fun k => match k with
  | 0 => ("SlackHall$Node", "kind", "I", false)
  | 1 => ("SlackHall$Node", "one", "I", false)
  | 2 => ("SlackHall$Node", "other", "I", false)
  | 3 => ("SlackHall$Node", "clock", "I", false)
  | 4 => ("SlackHall$Node", "driver", "LSlackHall$Clock;", false)
  | 5 => ("SlackHall$Node", "size", "I", false)
  | 6 => ("SlackHall$Node", "wire", "F", false)
  | _ => ("SlackHall$Node", "skew", "I", false)
def tyX5 : Nat → FieldType := fun k => match k with
  | 0 => .int
  | 1 => .int
  | 2 => .int
  | 3 => .int
  | 4 => .object "SlackHall$Clock"
  | 5 => .int
  | 6 => .float
  | _ => .int
abbrev wsX50 : List Cond := u_ws RX5 TX5 8
theorem nmX5 : ∀ a, a < 8 → ∀ b, b < 8 → a ≠ b → (TX5 a).2.1 ≠ (TX5 b).2.1 := by decide +kernel
theorem tyX5_ok : ∀ k, k < 8 → parseFieldDescriptor (TX5 k).2.2.1 = some (tyX5 k) := by decide +kernel
def RX6 : String := "SlackHall$Paths"
def TX6 : u_T := fun k => match k with
  | 0 => ("SlackHall$Paths", "chip", "LSlackHall$Chip;", true)
  | 1 => ("SlackHall$Paths", "reach", "[I", true)
  | 2 => ("SlackHall$Paths", "checked", "[I", true)
  | 3 => ("SlackHall$Paths", "counts", "[I", true)
  | 4 => ("SlackHall$Paths", "gaps", "[I", true)
  | _ => ("SlackHall$Paths", "isFresh", "Z", false)
def tyX6 : Nat → FieldType := fun k => match k with
  | 0 => .object "SlackHall$Chip"
  | 1 => .array .int
  | 2 => .array .int
  | 3 => .array .int
  | 4 => .array .int
  | _ => .boolean
abbrev wsX60 : List Cond := u_ws RX6 TX6 6
theorem nmX6 : ∀ a, a < 6 → ∀ b, b < 6 → a ≠ b → (TX6 a).2.1 ≠ (TX6 b).2.1 := by decide +kernel
theorem tyX6_ok : ∀ k, k < 6 → parseFieldDescriptor (TX6 k).2.2.1 = some (tyX6 k) := by decide +kernel
def RX7 : String := "SlackHall$Rule"
def TX7 : u_T := fun k => match k with
  | 0 => ("SlackHall$Rule", "sort", "I", false)
  | 1 => ("SlackHall$Rule", "from", "I", false)
  | _ => ("SlackHall$Rule", "to", "I", false)
def tyX7 : Nat → FieldType := fun k => match k with
  | 0 => .int
  | 1 => .int
  | _ => .int
abbrev wsX70 : List Cond := u_ws RX7 TX7 3
theorem nmX7 : ∀ a, a < 3 → ∀ b, b < 3 → a ≠ b → (TX7 a).2.1 ≠ (TX7 b).2.1 := by decide +kernel
theorem tyX7_ok : ∀ k, k < 3 → parseFieldDescriptor (TX7 k).2.2.1 = some (tyX7 k) := by decide +kernel
def RX8 : String := "SlackHall$Timing"
def TX8 : u_T := fun k => match k with
  | 0 => ("SlackHall$Timing", "chip", "LSlackHall$Chip;", true)
  | 1 => ("SlackHall$Timing", "paths", "LSlackHall$Paths;", true)
  | 2 => ("SlackHall$Timing", "delays", "LSlackHall$Delays;", true)
  | 3 => ("SlackHall$Timing", "isLate", "Z", true)
  | 4 => ("SlackHall$Timing", "arrivals", "[D", true)
  | 5 => ("SlackHall$Timing", "lefts", "[D", true)
  | 6 => ("SlackHall$Timing", "leasts", "[D", true)
  | 7 => ("SlackHall$Timing", "borrows", "[D", true)
  | _ => ("SlackHall$Timing", "isFresh", "Z", false)
def tyX8 : Nat → FieldType := fun k => match k with
  | 0 => .object "SlackHall$Chip"
  | 1 => .object "SlackHall$Paths"
  | 2 => .object "SlackHall$Delays"
  | 3 => .boolean
  | 4 => .array .double
  | 5 => .array .double
  | 6 => .array .double
  | 7 => .array .double
  | _ => .boolean
abbrev wsX80 : List Cond := u_ws RX8 TX8 9
theorem nmX8 : ∀ a, a < 9 → ∀ b, b < 9 → a ≠ b → (TX8 a).2.1 ≠ (TX8 b).2.1 := by decide +kernel
theorem tyX8_ok : ∀ k, k < 9 → parseFieldDescriptor (TX8 k).2.2.1 = some (tyX8 k) := by decide +kernel
def RX9 : String := "SlackHall"
def TX9 : u_T := fun k => match k with
  | 0 => ("SlackHall", "chip", "LSlackHall$Chip;", true)
  | 1 => ("SlackHall", "analysis", "LSlackHall$Analysis;", true)
  | 2 => ("SlackHall", "isSigned", "Z", false)
  | _ => ("SlackHall", "refusals", "I", false)
def tyX9 : Nat → FieldType := fun k => match k with
  | 0 => .object "SlackHall$Chip"
  | 1 => .object "SlackHall$Analysis"
  | 2 => .boolean
  | _ => .int
abbrev wsX90 : List Cond := u_ws RX9 TX9 4
theorem nmX9 : ∀ a, a < 4 → ∀ b, b < 4 → a ≠ b → (TX9 a).2.1 ≠ (TX9 b).2.1 := by decide +kernel
theorem tyX9_ok : ∀ k, k < 4 → parseFieldDescriptor (TX9 k).2.2.1 = some (tyX9 k) := by decide +kernel
def RL : String := "SlackHallLaw"
def RJ6 : String := "java/lang/Integer"
abbrev cX0_init : ByteArray := prog_2_method_1_code
def yX0_init : MethodName := ⟨RX0, "<init>", "(LSlackHall$Chip;)V"⟩
abbrev cX0_forget : ByteArray := prog_2_method_2_code
def yX0_forget : MethodName := ⟨RX0, "forget", "()V"⟩
abbrev cX0_paths : ByteArray := prog_2_method_3_code
def yX0_paths : MethodName := ⟨RX0, "paths", "()LSlackHall$Paths;"⟩
abbrev cX0_delays : ByteArray := prog_2_method_4_code
def yX0_delays : MethodName := ⟨RX0, "delays", "()LSlackHall$Delays;"⟩
abbrev cX0_timing : ByteArray := prog_2_method_5_code
def yX0_timing : MethodName := ⟨RX0, "timing", "(IZ)LSlackHall$Timing;"⟩
abbrev cX0_leastOfAll : ByteArray := prog_2_method_6_code
def yX0_leastOfAll : MethodName := ⟨RX0, "leastOfAll", "(Z)D"⟩
abbrev cX0_endsInNeed : ByteArray := prog_2_method_7_code
def yX0_endsInNeed : MethodName := ⟨RX0, "endsInNeed", "(Z)I"⟩
abbrev cX0_leastWith : ByteArray := prog_2_method_8_code
def yX0_leastWith : MethodName := ⟨RX0, "leastWith", "(II)D"⟩
abbrev cX0_bestChange : ByteArray := prog_2_method_9_code
def yX0_bestChange : MethodName := ⟨RX0, "bestChange", "()I"⟩
abbrev cX0_makesIdle : ByteArray := prog_2_method_10_code
def yX0_makesIdle : MethodName := ⟨RX0, "makesIdle", "(II)Z"⟩
abbrev cX1_init : ByteArray := prog_3_method_1_code
def yX1_init : MethodName := ⟨RX1, "<init>", "()V"⟩
abbrev cX1_hasClock : ByteArray := prog_3_method_2_code
def yX1_hasClock : MethodName := ⟨RX1, "hasClock", "(I)Z"⟩
abbrev cX1_hasCorner : ByteArray := prog_3_method_3_code
def yX1_hasCorner : MethodName := ⟨RX1, "hasCorner", "(I)Z"⟩
abbrev cX1_hasNode : ByteArray := prog_3_method_4_code
def yX1_hasNode : MethodName := ⟨RX1, "hasNode", "(I)Z"⟩
abbrev cX1_addClock : ByteArray := prog_3_method_5_code
def yX1_addClock : MethodName := ⟨RX1, "addClock", "(IIIII)I"⟩
abbrev cX1_addCorner : ByteArray := prog_3_method_6_code
def yX1_addCorner : MethodName := ⟨RX1, "addCorner", "(II)I"⟩
abbrev cX1_addNode : ByteArray := prog_3_method_7_code
def yX1_addNode : MethodName := ⟨RX1, "addNode", "(IIII)I"⟩
abbrev cX1_addRule : ByteArray := prog_3_method_8_code
def yX1_addRule : MethodName := ⟨RX1, "addRule", "(III)I"⟩
abbrev cX1_timesFeed : ByteArray := prog_3_method_9_code
def yX1_timesFeed : MethodName := ⟨RX1, "timesFeed", "(I)I"⟩
abbrev cX1_winnerOf : ByteArray := prog_3_method_10_code
def yX1_winnerOf : MethodName := ⟨RX1, "winnerOf", "(II)I"⟩
abbrev cX1_isOneGroup : ByteArray := prog_3_method_11_code
def yX1_isOneGroup : MethodName := ⟨RX1, "isOneGroup", "(II)Z"⟩
abbrev cX1_gapOf : ByteArray := prog_3_method_12_code
def yX1_gapOf : MethodName := ⟨RX1, "gapOf", "(III)I"⟩
abbrev cX1_greatestDivisor : ByteArray := prog_3_method_13_code
def yX1_greatestDivisor : MethodName := ⟨RX1, "greatestDivisor", "(II)I"⟩
abbrev cX2_init : ByteArray := prog_4_method_1_code
def yX2_init : MethodName := ⟨RX2, "<init>", "()V"⟩
abbrev cX2_tell : ByteArray := prog_4_method_2_code
def yX2_tell : MethodName := ⟨RX2, "tell", "(I)I"⟩
abbrev cX3_init : ByteArray := prog_5_method_1_code
def yX3_init : MethodName := ⟨RX3, "<init>", "()V"⟩
abbrev cX4_init : ByteArray := prog_6_method_1_code
def yX4_init : MethodName := ⟨RX4, "<init>", "(LSlackHall$Chip;)V"⟩
abbrev cX4_prepare : ByteArray := prog_6_method_2_code
def yX4_prepare : MethodName := ⟨RX4, "prepare", "()V"⟩
abbrev cX4_reckon : ByteArray := prog_6_method_3_code
def yX4_reckon : MethodName := ⟨RX4, "reckon", "()V"⟩
abbrev cX4_burden : ByteArray := prog_6_method_4_code
def yX4_burden : MethodName := ⟨RX4, "burden", "(IF)V"⟩
abbrev cX4_riseOf : ByteArray := prog_6_method_5_code
def yX4_riseOf : MethodName := ⟨RX4, "riseOf", "(LSlackHall$Node;D)D"⟩
abbrev cX4_unsized : ByteArray := prog_6_method_6_code
def yX4_unsized : MethodName := ⟨RX4, "unsized", "(D)D"⟩
abbrev cX4_ofEdge : ByteArray := prog_6_method_7_code
def yX4_ofEdge : MethodName := ⟨RX4, "ofEdge", "(II)D"⟩
abbrev cX5_init : ByteArray := prog_7_method_1_code
def yX5_init : MethodName := ⟨RX5, "<init>", "(LSlackHall$Clock;)V"⟩
abbrev cX5_isStart : ByteArray := prog_7_method_2_code
def yX5_isStart : MethodName := ⟨RX5, "isStart", "()Z"⟩
abbrev cX5_isEndKind : ByteArray := prog_7_method_3_code
def yX5_isEndKind : MethodName := ⟨RX5, "isEndKind", "()Z"⟩
abbrev cX5_isGate : ByteArray := prog_7_method_4_code
def yX5_isGate : MethodName := ⟨RX5, "isGate", "()Z"⟩
abbrev cX5_lag : ByteArray := prog_7_method_5_code
def yX5_lag : MethodName := ⟨RX5, "lag", "()D"⟩
abbrev cX5_makes : ByteArray := prog_7_method_6_code
def yX5_makes : MethodName := ⟨RX5, "makes", "(II)Z"⟩
abbrev cX5_tell : ByteArray := prog_7_method_7_code
def yX5_tell : MethodName := ⟨RX5, "tell", "(I)I"⟩
abbrev cX6_init : ByteArray := prog_8_method_1_code
def yX6_init : MethodName := ⟨RX6, "<init>", "(LSlackHall$Chip;)V"⟩
abbrev cX6_prepare : ByteArray := prog_8_method_2_code
def yX6_prepare : MethodName := ⟨RX6, "prepare", "()V"⟩
abbrev cX6_join : ByteArray := prog_8_method_3_code
def yX6_join : MethodName := ⟨RX6, "join", "(II)V"⟩
abbrev cX6_check : ByteArray := prog_8_method_4_code
def yX6_check : MethodName := ⟨RX6, "check", "(I)V"⟩
abbrev cX6_reaches : ByteArray := prog_8_method_5_code
def yX6_reaches : MethodName := ⟨RX6, "reaches", "(II)Z"⟩
abbrev cX6_comesTo : ByteArray := prog_8_method_6_code
def yX6_comesTo : MethodName := ⟨RX6, "comesTo", "(II)Z"⟩
abbrev cX6_isChecked : ByteArray := prog_8_method_7_code
def yX6_isChecked : MethodName := ⟨RX6, "isChecked", "(II)Z"⟩
abbrev cX6_hasCheck : ByteArray := prog_8_method_8_code
def yX6_hasCheck : MethodName := ⟨RX6, "hasCheck", "(I)Z"⟩
abbrev cX6_gapBetween : ByteArray := prog_8_method_9_code
def yX6_gapBetween : MethodName := ⟨RX6, "gapBetween", "(II)I"⟩
abbrev cX6_waysTo : ByteArray := prog_8_method_10_code
def yX6_waysTo : MethodName := ⟨RX6, "waysTo", "(II)I"⟩
abbrev cX6_checkedPairs : ByteArray := prog_8_method_11_code
def yX6_checkedPairs : MethodName := ⟨RX6, "checkedPairs", "()I"⟩
abbrev cX6_crossings : ByteArray := prog_8_method_12_code
def yX6_crossings : MethodName := ⟨RX6, "crossings", "(Z)I"⟩
abbrev cX6_isSafe : ByteArray := prog_8_method_13_code
def yX6_isSafe : MethodName := ⟨RX6, "isSafe", "(II)Z"⟩
abbrev cX7_init : ByteArray := prog_9_method_1_code
def yX7_init : MethodName := ⟨RX7, "<init>", "()V"⟩
abbrev cX7_fits : ByteArray := prog_9_method_2_code
def yX7_fits : MethodName := ⟨RX7, "fits", "(II)Z"⟩
abbrev cX7_weight : ByteArray := prog_9_method_3_code
def yX7_weight : MethodName := ⟨RX7, "weight", "()I"⟩
abbrev cX8_init : ByteArray := prog_10_method_1_code
def yX8_init : MethodName := ⟨RX8, "<init>", "(LSlackHall$Chip;LSlackHall$Paths;LSlackHall$Delays;Z)V"⟩
abbrev cX8_reckon : ByteArray := prog_10_method_2_code
def yX8_reckon : MethodName := ⟨RX8, "reckon", "(LSlackHall$Corner;)V"⟩
abbrev cX8_delayOf : ByteArray := prog_10_method_3_code
def yX8_delayOf : MethodName := ⟨RX8, "delayOf", "(IILSlackHall$Corner;)D"⟩
abbrev cX8_depart : ByteArray := prog_10_method_4_code
def yX8_depart : MethodName := ⟨RX8, "depart", "(ILSlackHall$Corner;)V"⟩
abbrev cX8_pass : ByteArray := prog_10_method_5_code
def yX8_pass : MethodName := ⟨RX8, "pass", "(ILSlackHall$Corner;)V"⟩
abbrev cX8_sourceOf : ByteArray := prog_10_method_6_code
def yX8_sourceOf : MethodName := ⟨RX8, "sourceOf", "(II)I"⟩
abbrev cX8_beats : ByteArray := prog_10_method_7_code
def yX8_beats : MethodName := ⟨RX8, "beats", "(III)Z"⟩
abbrev cX8_settle : ByteArray := prog_10_method_8_code
def yX8_settle : MethodName := ⟨RX8, "settle", "(ILSlackHall$Corner;)V"⟩
abbrev cX8_leftForLate : ByteArray := prog_10_method_9_code
def yX8_leftForLate : MethodName := ⟨RX8, "leftForLate", "(IILSlackHall$Corner;)D"⟩
abbrev cX8_leftForEarly : ByteArray := prog_10_method_10_code
def yX8_leftForEarly : MethodName := ⟨RX8, "leftForEarly", "(IILSlackHall$Corner;)D"⟩
abbrev cX8_credit : ByteArray := prog_10_method_11_code
def yX8_credit : MethodName := ⟨RX8, "credit", "(LSlackHall$Clock;LSlackHall$Clock;LSlackHall$Corner;)D"⟩
abbrev cX8_lend : ByteArray := prog_10_method_12_code
def yX8_lend : MethodName := ⟨RX8, "lend", "(I)V"⟩
abbrev cX8_arrivalOf : ByteArray := prog_10_method_13_code
def yX8_arrivalOf : MethodName := ⟨RX8, "arrivalOf", "(III)D"⟩
abbrev cX8_leftOf : ByteArray := prog_10_method_14_code
def yX8_leftOf : MethodName := ⟨RX8, "leftOf", "(II)D"⟩
abbrev cX8_leastAt : ByteArray := prog_10_method_15_code
def yX8_leastAt : MethodName := ⟨RX8, "leastAt", "(I)D"⟩
abbrev cX8_leastOfEnds : ByteArray := prog_10_method_16_code
def yX8_leastOfEnds : MethodName := ⟨RX8, "leastOfEnds", "()D"⟩
abbrev cX8_worstWay : ByteArray := prog_10_method_17_code
def yX8_worstWay : MethodName := ⟨RX8, "worstWay", "(II)I"⟩
abbrev cX8_worstStart : ByteArray := prog_10_method_18_code
def yX8_worstStart : MethodName := ⟨RX8, "worstStart", "(I)I"⟩
abbrev cX9_init : ByteArray := prog_1_method_1_code
def yX9_init : MethodName := ⟨RX9, "<init>", "()V"⟩
abbrev cX9_clock : ByteArray := prog_1_method_2_code
def yX9_clock : MethodName := ⟨RX9, "clock", "(IIII)I"⟩
abbrev cX9_divide : ByteArray := prog_1_method_3_code
def yX9_divide : MethodName := ⟨RX9, "divide", "(III)I"⟩
abbrev cX9_corner : ByteArray := prog_1_method_4_code
def yX9_corner : MethodName := ⟨RX9, "corner", "(II)I"⟩
abbrev cX9_node : ByteArray := prog_1_method_5_code
def yX9_node : MethodName := ⟨RX9, "node", "(IIII)I"⟩
abbrev cX9_feed : ByteArray := prog_1_method_6_code
def yX9_feed : MethodName := ⟨RX9, "feed", "(II)I"⟩
abbrev cX9_size : ByteArray := prog_1_method_7_code
def yX9_size : MethodName := ⟨RX9, "size", "(II)I"⟩
abbrev cX9_wire : ByteArray := prog_1_method_8_code
def yX9_wire : MethodName := ⟨RX9, "wire", "(II)I"⟩
abbrev cX9_skew : ByteArray := prog_1_method_9_code
def yX9_skew : MethodName := ⟨RX9, "skew", "(II)I"⟩
abbrev cX9_exception : ByteArray := prog_1_method_10_code
def yX9_exception : MethodName := ⟨RX9, "exception", "(III)I"⟩
abbrev cX9_sign : ByteArray := prog_1_method_11_code
def yX9_sign : MethodName := ⟨RX9, "sign", "(Z)Z"⟩
abbrev cX9_knock : ByteArray := prog_1_method_12_code
def yX9_knock : MethodName := ⟨RX9, "knock", "()I"⟩
abbrev cX9_ofClock : ByteArray := prog_1_method_13_code
def yX9_ofClock : MethodName := ⟨RX9, "ofClock", "(II)I"⟩
abbrev cX9_ofNode : ByteArray := prog_1_method_14_code
def yX9_ofNode : MethodName := ⟨RX9, "ofNode", "(II)I"⟩
abbrev cX9_load : ByteArray := prog_1_method_15_code
def yX9_load : MethodName := ⟨RX9, "load", "(I)D"⟩
abbrev cX9_takes : ByteArray := prog_1_method_16_code
def yX9_takes : MethodName := ⟨RX9, "takes", "(IZ)D"⟩
abbrev cX9_arrival : ByteArray := prog_1_method_17_code
def yX9_arrival : MethodName := ⟨RX9, "arrival", "(IIIZZ)D"⟩
abbrev cX9_winner : ByteArray := prog_1_method_18_code
def yX9_winner : MethodName := ⟨RX9, "winner", "(II)I"⟩
abbrev cX9_left : ByteArray := prog_1_method_19_code
def yX9_left : MethodName := ⟨RX9, "left", "(IIIZ)D"⟩
abbrev cX9_leftAt : ByteArray := prog_1_method_20_code
def yX9_leftAt : MethodName := ⟨RX9, "leftAt", "(IIZ)D"⟩
abbrev cX9_borrow : ByteArray := prog_1_method_21_code
def yX9_borrow : MethodName := ⟨RX9, "borrow", "(II)D"⟩
abbrev cX9_ways : ByteArray := prog_1_method_22_code
def yX9_ways : MethodName := ⟨RX9, "ways", "(II)I"⟩
abbrev cX9_worst : ByteArray := prog_1_method_23_code
def yX9_worst : MethodName := ⟨RX9, "worst", "(II)I"⟩
abbrev cX9_many : ByteArray := prog_1_method_24_code
def yX9_many : MethodName := ⟨RX9, "many", "(I)I"⟩
abbrev cX9_least : ByteArray := prog_1_method_25_code
def yX9_least : MethodName := ⟨RX9, "least", "(Z)D"⟩
abbrev cX9_wouldLeave : ByteArray := prog_1_method_26_code
def yX9_wouldLeave : MethodName := ⟨RX9, "wouldLeave", "(II)D"⟩
abbrev cX9_best : ByteArray := prog_1_method_27_code
def yX9_best : MethodName := ⟨RX9, "best", "()I"⟩
abbrev cX9_isIdle : ByteArray := prog_1_method_28_code
def yX9_isIdle : MethodName := ⟨RX9, "isIdle", "(I)Z"⟩
abbrev cX9_digest : ByteArray := prog_1_method_29_code
def yX9_digest : MethodName := ⟨RX9, "digest", "()J"⟩
abbrev cX9_digestNode : ByteArray := prog_1_method_30_code
def yX9_digestNode : MethodName := ⟨RX9, "digestNode", "(JI)J"⟩
abbrev cX9_mustBeOpen : ByteArray := prog_1_method_31_code
def yX9_mustBeOpen : MethodName := ⟨RX9, "mustBeOpen", "(Z)V"⟩
abbrev cX9_mustExist : ByteArray := prog_1_method_32_code
def yX9_mustExist : MethodName := ⟨RX9, "mustExist", "(Z)V"⟩
abbrev cX9_mustFit : ByteArray := prog_1_method_33_code
def yX9_mustFit : MethodName := ⟨RX9, "mustFit", "(Z)V"⟩
abbrev cX9_mustBePair : ByteArray := prog_1_method_34_code
def yX9_mustBePair : MethodName := ⟨RX9, "mustBePair", "(II)V"⟩
abbrev cX9_isIn : ByteArray := prog_1_method_35_code
def yX9_isIn : MethodName := ⟨RX9, "isIn", "(III)Z"⟩
abbrev cX9_isSize : ByteArray := prog_1_method_36_code
def yX9_isSize : MethodName := ⟨RX9, "isSize", "(I)Z"⟩
abbrev cX9_smaller : ByteArray := prog_1_method_37_code
def yX9_smaller : MethodName := ⟨RX9, "smaller", "(DD)D"⟩
abbrev cX9_greater : ByteArray := prog_1_method_38_code
def yX9_greater : MethodName := ⟨RX9, "greater", "(DD)D"⟩
abbrev cJ6_bitCount_0f7a4 : ByteArray := prog_22_method_49_code
def yJ6_bitCount_0f7a4 : MethodName := ⟨RJ6, "bitCount", "(I)I"⟩
theorem dX0_init_0 : decode cX0_init 0 = .ok (.aload_n 0, 1) := by decide +kernel
theorem dX0_init_1 : decode cX0_init 1 = .ok (.invokespecial 3, 3) := by decide +kernel
theorem dX0_init_4 : decode cX0_init 4 = .ok (.aload_n 0, 1) := by decide +kernel
theorem dX0_init_5 : decode cX0_init 5 = .ok (.iconst 3, 1) := by decide +kernel
theorem dX0_init_6 : decode cX0_init 6 = .ok (.anewarray 9, 3) := by decide +kernel
theorem dX0_init_9 : decode cX0_init 9 = .ok (.putfield 11, 3) := by decide +kernel
theorem dX0_init_12 : decode cX0_init 12 = .ok (.aload_n 0, 1) := by decide +kernel
theorem dX0_init_13 : decode cX0_init 13 = .ok (.iconst 3, 1) := by decide +kernel
theorem dX0_init_14 : decode cX0_init 14 = .ok (.anewarray 9, 3) := by decide +kernel
theorem dX0_init_17 : decode cX0_init 17 = .ok (.putfield 17, 3) := by decide +kernel
theorem dX0_init_20 : decode cX0_init 20 = .ok (.aload_n 0, 1) := by decide +kernel
theorem dX0_init_21 : decode cX0_init 21 = .ok (.aload_n 1, 1) := by decide +kernel
theorem dX0_init_22 : decode cX0_init 22 = .ok (.putfield 20, 3) := by decide +kernel
theorem dX0_init_25 : decode cX0_init 25 = .ok (.aload_n 0, 1) := by decide +kernel
theorem dX0_init_26 : decode cX0_init 26 = .ok (.new 24, 3) := by decide +kernel
theorem dX0_init_29 : decode cX0_init 29 = .ok (.dup, 1) := by decide +kernel
theorem dX0_init_30 : decode cX0_init 30 = .ok (.aload_n 1, 1) := by decide +kernel
theorem dX0_init_31 : decode cX0_init 31 = .ok (.invokespecial 26, 3) := by decide +kernel
theorem dX0_init_34 : decode cX0_init 34 = .ok (.putfield 29, 3) := by decide +kernel
theorem dX0_init_37 : decode cX0_init 37 = .ok (.aload_n 0, 1) := by decide +kernel
theorem dX0_init_38 : decode cX0_init 38 = .ok (.new 33, 3) := by decide +kernel
theorem dX0_init_41 : decode cX0_init 41 = .ok (.dup, 1) := by decide +kernel
theorem dX0_init_42 : decode cX0_init 42 = .ok (.aload_n 1, 1) := by decide +kernel
theorem dX0_init_43 : decode cX0_init 43 = .ok (.invokespecial 35, 3) := by decide +kernel
theorem dX0_init_46 : decode cX0_init 46 = .ok (.putfield 36, 3) := by decide +kernel
theorem dX0_init_49 : decode cX0_init 49 = .ok (.aload_n 0, 1) := by decide +kernel
theorem dX0_init_50 : decode cX0_init 50 = .ok (.new 33, 3) := by decide +kernel
theorem dX0_init_53 : decode cX0_init 53 = .ok (.dup, 1) := by decide +kernel
theorem dX0_init_54 : decode cX0_init 54 = .ok (.aload_n 1, 1) := by decide +kernel
theorem dX0_init_55 : decode cX0_init 55 = .ok (.invokespecial 35, 3) := by decide +kernel
theorem dX0_init_58 : decode cX0_init 58 = .ok (.putfield 40, 3) := by decide +kernel
theorem dX0_init_61 : decode cX0_init 61 = .ok (.aload_n 0, 1) := by decide +kernel
theorem dX0_init_62 : decode cX0_init 62 = .ok (.new 9, 3) := by decide +kernel
theorem dX0_init_65 : decode cX0_init 65 = .ok (.dup, 1) := by decide +kernel
theorem dX0_init_66 : decode cX0_init 66 = .ok (.aload_n 1, 1) := by decide +kernel
theorem dX0_init_67 : decode cX0_init 67 = .ok (.aload_n 0, 1) := by decide +kernel
theorem dX0_init_68 : decode cX0_init 68 = .ok (.getfield 29, 3) := by decide +kernel
theorem dX0_init_71 : decode cX0_init 71 = .ok (.aload_n 0, 1) := by decide +kernel
theorem dX0_init_72 : decode cX0_init 72 = .ok (.getfield 40, 3) := by decide +kernel
theorem dX0_init_75 : decode cX0_init 75 = .ok (.iconst 1, 1) := by decide +kernel
theorem dX0_init_76 : decode cX0_init 76 = .ok (.invokespecial 43, 3) := by decide +kernel
theorem dX0_init_79 : decode cX0_init 79 = .ok (.putfield 46, 3) := by decide +kernel
theorem dX0_init_82 : decode cX0_init 82 = .ok (.iconst 0, 1) := by decide +kernel
theorem dX0_init_83 : decode cX0_init 83 = .ok (.istore_n 2, 1) := by decide +kernel
theorem dX0_init_84 : decode cX0_init 84 = .ok (.iload_n 2, 1) := by decide +kernel
theorem dX0_init_85 : decode cX0_init 85 = .ok (.iconst 3, 1) := by decide +kernel
theorem dX0_init_86 : decode cX0_init 86 = .ok (.if_icmp .ge 55, 3) := by decide +kernel
theorem dX0_init_89 : decode cX0_init 89 = .ok (.aload_n 0, 1) := by decide +kernel
theorem dX0_init_90 : decode cX0_init 90 = .ok (.getfield 11, 3) := by decide +kernel
theorem dX0_init_93 : decode cX0_init 93 = .ok (.iload_n 2, 1) := by decide +kernel
theorem dX0_init_94 : decode cX0_init 94 = .ok (.new 9, 3) := by decide +kernel
theorem dX0_init_97 : decode cX0_init 97 = .ok (.dup, 1) := by decide +kernel
theorem dX0_init_98 : decode cX0_init 98 = .ok (.aload_n 1, 1) := by decide +kernel
theorem dX0_init_99 : decode cX0_init 99 = .ok (.aload_n 0, 1) := by decide +kernel
theorem dX0_init_100 : decode cX0_init 100 = .ok (.getfield 29, 3) := by decide +kernel
theorem dX0_init_103 : decode cX0_init 103 = .ok (.aload_n 0, 1) := by decide +kernel
theorem dX0_init_104 : decode cX0_init 104 = .ok (.getfield 36, 3) := by decide +kernel
theorem dX0_init_107 : decode cX0_init 107 = .ok (.iconst 1, 1) := by decide +kernel
theorem dX0_init_108 : decode cX0_init 108 = .ok (.invokespecial 43, 3) := by decide +kernel
theorem dX0_init_111 : decode cX0_init 111 = .ok (.aastore, 1) := by decide +kernel
theorem dX0_init_112 : decode cX0_init 112 = .ok (.aload_n 0, 1) := by decide +kernel
theorem dX0_init_113 : decode cX0_init 113 = .ok (.getfield 17, 3) := by decide +kernel
theorem dX0_init_116 : decode cX0_init 116 = .ok (.iload_n 2, 1) := by decide +kernel
theorem dX0_init_117 : decode cX0_init 117 = .ok (.new 9, 3) := by decide +kernel
theorem dX0_init_120 : decode cX0_init 120 = .ok (.dup, 1) := by decide +kernel
theorem dX0_init_121 : decode cX0_init 121 = .ok (.aload_n 1, 1) := by decide +kernel
theorem dX0_init_122 : decode cX0_init 122 = .ok (.aload_n 0, 1) := by decide +kernel
theorem dX0_init_123 : decode cX0_init 123 = .ok (.getfield 29, 3) := by decide +kernel
theorem dX0_init_126 : decode cX0_init 126 = .ok (.aload_n 0, 1) := by decide +kernel
theorem dX0_init_127 : decode cX0_init 127 = .ok (.getfield 36, 3) := by decide +kernel
theorem dX0_init_130 : decode cX0_init 130 = .ok (.iconst 0, 1) := by decide +kernel
theorem dX0_init_131 : decode cX0_init 131 = .ok (.invokespecial 43, 3) := by decide +kernel
theorem dX0_init_134 : decode cX0_init 134 = .ok (.aastore, 1) := by decide +kernel
theorem dX0_init_135 : decode cX0_init 135 = .ok (.iinc 2 1, 3) := by decide +kernel
theorem dX0_init_138 : decode cX0_init 138 = .ok (.goto (-54), 3) := by decide +kernel
theorem dX0_init_141 : decode cX0_init 141 = .ok (.return_, 1) := by decide +kernel
theorem dX0_forget_0 : decode cX0_forget 0 = .ok (.aload_n 0, 1) := by decide +kernel
theorem dX0_forget_1 : decode cX0_forget 1 = .ok (.getfield 29, 3) := by decide +kernel
theorem dX0_forget_4 : decode cX0_forget 4 = .ok (.iconst 0, 1) := by decide +kernel
theorem dX0_forget_5 : decode cX0_forget 5 = .ok (.putfield 50, 3) := by decide +kernel
theorem dX0_forget_8 : decode cX0_forget 8 = .ok (.aload_n 0, 1) := by decide +kernel
theorem dX0_forget_9 : decode cX0_forget 9 = .ok (.getfield 36, 3) := by decide +kernel
theorem dX0_forget_12 : decode cX0_forget 12 = .ok (.iconst 0, 1) := by decide +kernel
theorem dX0_forget_13 : decode cX0_forget 13 = .ok (.putfield 54, 3) := by decide +kernel
theorem dX0_forget_16 : decode cX0_forget 16 = .ok (.iconst 0, 1) := by decide +kernel
theorem dX0_forget_17 : decode cX0_forget 17 = .ok (.istore_n 1, 1) := by decide +kernel
theorem dX0_forget_18 : decode cX0_forget 18 = .ok (.iload_n 1, 1) := by decide +kernel
theorem dX0_forget_19 : decode cX0_forget 19 = .ok (.iconst 3, 1) := by decide +kernel
theorem dX0_forget_20 : decode cX0_forget 20 = .ok (.if_icmp .ge 29, 3) := by decide +kernel
theorem dX0_forget_23 : decode cX0_forget 23 = .ok (.aload_n 0, 1) := by decide +kernel
theorem dX0_forget_24 : decode cX0_forget 24 = .ok (.getfield 11, 3) := by decide +kernel
theorem dX0_forget_27 : decode cX0_forget 27 = .ok (.iload_n 1, 1) := by decide +kernel
theorem dX0_forget_28 : decode cX0_forget 28 = .ok (.aaload, 1) := by decide +kernel
theorem dX0_forget_29 : decode cX0_forget 29 = .ok (.iconst 0, 1) := by decide +kernel
theorem dX0_forget_30 : decode cX0_forget 30 = .ok (.putfield 55, 3) := by decide +kernel
theorem dX0_forget_33 : decode cX0_forget 33 = .ok (.aload_n 0, 1) := by decide +kernel
theorem dX0_forget_34 : decode cX0_forget 34 = .ok (.getfield 17, 3) := by decide +kernel
theorem dX0_forget_37 : decode cX0_forget 37 = .ok (.iload_n 1, 1) := by decide +kernel
theorem dX0_forget_38 : decode cX0_forget 38 = .ok (.aaload, 1) := by decide +kernel
theorem dX0_forget_39 : decode cX0_forget 39 = .ok (.iconst 0, 1) := by decide +kernel
theorem dX0_forget_40 : decode cX0_forget 40 = .ok (.putfield 55, 3) := by decide +kernel
theorem dX0_forget_43 : decode cX0_forget 43 = .ok (.iinc 1 1, 3) := by decide +kernel
theorem dX0_forget_46 : decode cX0_forget 46 = .ok (.goto (-28), 3) := by decide +kernel
theorem dX0_forget_49 : decode cX0_forget 49 = .ok (.return_, 1) := by decide +kernel
theorem dX0_paths_0 : decode cX0_paths 0 = .ok (.aload_n 0, 1) := by decide +kernel
theorem dX0_paths_1 : decode cX0_paths 1 = .ok (.getfield 29, 3) := by decide +kernel
theorem dX0_paths_4 : decode cX0_paths 4 = .ok (.invokevirtual 56, 3) := by decide +kernel
theorem dX0_paths_7 : decode cX0_paths 7 = .ok (.aload_n 0, 1) := by decide +kernel
theorem dX0_paths_8 : decode cX0_paths 8 = .ok (.getfield 29, 3) := by decide +kernel
theorem dX0_paths_11 : decode cX0_paths 11 = .ok (.areturn, 1) := by decide +kernel
theorem dX0_delays_0 : decode cX0_delays 0 = .ok (.aload_n 0, 1) := by decide +kernel
theorem dX0_delays_1 : decode cX0_delays 1 = .ok (.getfield 36, 3) := by decide +kernel
theorem dX0_delays_4 : decode cX0_delays 4 = .ok (.invokevirtual 59, 3) := by decide +kernel
theorem dX0_delays_7 : decode cX0_delays 7 = .ok (.aload_n 0, 1) := by decide +kernel
theorem dX0_delays_8 : decode cX0_delays 8 = .ok (.getfield 36, 3) := by decide +kernel
theorem dX0_delays_11 : decode cX0_delays 11 = .ok (.areturn, 1) := by decide +kernel
theorem dX0_timing_0 : decode cX0_timing 0 = .ok (.aload_n 0, 1) := by decide +kernel
theorem dX0_timing_1 : decode cX0_timing 1 = .ok (.getfield 29, 3) := by decide +kernel
theorem dX0_timing_4 : decode cX0_timing 4 = .ok (.invokevirtual 56, 3) := by decide +kernel
theorem dX0_timing_7 : decode cX0_timing 7 = .ok (.aload_n 0, 1) := by decide +kernel
theorem dX0_timing_8 : decode cX0_timing 8 = .ok (.getfield 36, 3) := by decide +kernel
theorem dX0_timing_11 : decode cX0_timing 11 = .ok (.invokevirtual 59, 3) := by decide +kernel
theorem dX0_timing_14 : decode cX0_timing 14 = .ok (.iload_n 2, 1) := by decide +kernel
theorem dX0_timing_15 : decode cX0_timing 15 = .ok (.ifCond .eq 12, 3) := by decide +kernel
theorem dX0_timing_18 : decode cX0_timing 18 = .ok (.aload_n 0, 1) := by decide +kernel
theorem dX0_timing_19 : decode cX0_timing 19 = .ok (.getfield 11, 3) := by decide +kernel
theorem dX0_timing_22 : decode cX0_timing 22 = .ok (.iload_n 1, 1) := by decide +kernel
theorem dX0_timing_23 : decode cX0_timing 23 = .ok (.aaload, 1) := by decide +kernel
theorem dX0_timing_24 : decode cX0_timing 24 = .ok (.goto 9, 3) := by decide +kernel
theorem dX0_timing_27 : decode cX0_timing 27 = .ok (.aload_n 0, 1) := by decide +kernel
theorem dX0_timing_28 : decode cX0_timing 28 = .ok (.getfield 17, 3) := by decide +kernel
theorem dX0_timing_31 : decode cX0_timing 31 = .ok (.iload_n 1, 1) := by decide +kernel
theorem dX0_timing_32 : decode cX0_timing 32 = .ok (.aaload, 1) := by decide +kernel
theorem dX0_timing_33 : decode cX0_timing 33 = .ok (.astore_n 3, 1) := by decide +kernel
theorem dX0_timing_34 : decode cX0_timing 34 = .ok (.aload_n 3, 1) := by decide +kernel
theorem dX0_timing_35 : decode cX0_timing 35 = .ok (.getfield 55, 3) := by decide +kernel
theorem dX0_timing_38 : decode cX0_timing 38 = .ok (.ifCond .ne 16, 3) := by decide +kernel
theorem dX0_timing_41 : decode cX0_timing 41 = .ok (.aload_n 3, 1) := by decide +kernel
theorem dX0_timing_42 : decode cX0_timing 42 = .ok (.aload_n 0, 1) := by decide +kernel
theorem dX0_timing_43 : decode cX0_timing 43 = .ok (.getfield 20, 3) := by decide +kernel
theorem dX0_timing_46 : decode cX0_timing 46 = .ok (.getfield 60, 3) := by decide +kernel
theorem dX0_timing_49 : decode cX0_timing 49 = .ok (.iload_n 1, 1) := by decide +kernel
theorem dX0_timing_50 : decode cX0_timing 50 = .ok (.aaload, 1) := by decide +kernel
theorem dX0_timing_51 : decode cX0_timing 51 = .ok (.invokevirtual 66, 3) := by decide +kernel
theorem dX0_timing_54 : decode cX0_timing 54 = .ok (.aload_n 3, 1) := by decide +kernel
theorem dX0_timing_55 : decode cX0_timing 55 = .ok (.areturn, 1) := by decide +kernel
theorem dX0_leastOfAll_0 : decode cX0_leastOfAll 0 = .ok (.ldc2_w 70, 3) := by decide +kernel
theorem dX0_leastOfAll_3 : decode cX0_leastOfAll 3 = .ok (.dstore_n 2, 1) := by decide +kernel
theorem dX0_leastOfAll_4 : decode cX0_leastOfAll 4 = .ok (.iconst 0, 1) := by decide +kernel
theorem dX0_leastOfAll_5 : decode cX0_leastOfAll 5 = .ok (.istore 4, 2) := by decide +kernel
theorem dX0_leastOfAll_7 : decode cX0_leastOfAll 7 = .ok (.iload 4, 2) := by decide +kernel
theorem dX0_leastOfAll_9 : decode cX0_leastOfAll 9 = .ok (.aload_n 0, 1) := by decide +kernel
theorem dX0_leastOfAll_10 : decode cX0_leastOfAll 10 = .ok (.getfield 20, 3) := by decide +kernel
theorem dX0_leastOfAll_13 : decode cX0_leastOfAll 13 = .ok (.getfield 72, 3) := by decide +kernel
theorem dX0_leastOfAll_16 : decode cX0_leastOfAll 16 = .ok (.if_icmp .ge 24, 3) := by decide +kernel
theorem dX0_leastOfAll_19 : decode cX0_leastOfAll 19 = .ok (.dload_n 2, 1) := by decide +kernel
theorem dX0_leastOfAll_20 : decode cX0_leastOfAll 20 = .ok (.aload_n 0, 1) := by decide +kernel
theorem dX0_leastOfAll_21 : decode cX0_leastOfAll 21 = .ok (.iload 4, 2) := by decide +kernel
theorem dX0_leastOfAll_23 : decode cX0_leastOfAll 23 = .ok (.iload_n 1, 1) := by decide +kernel
theorem dX0_leastOfAll_24 : decode cX0_leastOfAll 24 = .ok (.invokevirtual 76, 3) := by decide +kernel
theorem dX0_leastOfAll_27 : decode cX0_leastOfAll 27 = .ok (.invokevirtual 80, 3) := by decide +kernel
theorem dX0_leastOfAll_30 : decode cX0_leastOfAll 30 = .ok (.invokestatic 84, 3) := by decide +kernel
theorem dX0_leastOfAll_33 : decode cX0_leastOfAll 33 = .ok (.dstore_n 2, 1) := by decide +kernel
theorem dX0_leastOfAll_34 : decode cX0_leastOfAll 34 = .ok (.iinc 4 1, 3) := by decide +kernel
theorem dX0_leastOfAll_37 : decode cX0_leastOfAll 37 = .ok (.goto (-30), 3) := by decide +kernel
theorem dX0_leastOfAll_40 : decode cX0_leastOfAll 40 = .ok (.dload_n 2, 1) := by decide +kernel
theorem dX0_leastOfAll_41 : decode cX0_leastOfAll 41 = .ok (.dreturn, 1) := by decide +kernel
theorem dX0_endsInNeed_0 : decode cX0_endsInNeed 0 = .ok (.iconst 0, 1) := by decide +kernel
theorem dX0_endsInNeed_1 : decode cX0_endsInNeed 1 = .ok (.istore_n 2, 1) := by decide +kernel
theorem dX0_endsInNeed_2 : decode cX0_endsInNeed 2 = .ok (.iconst 0, 1) := by decide +kernel
theorem dX0_endsInNeed_3 : decode cX0_endsInNeed 3 = .ok (.istore_n 3, 1) := by decide +kernel
theorem dX0_endsInNeed_4 : decode cX0_endsInNeed 4 = .ok (.iload_n 3, 1) := by decide +kernel
theorem dX0_endsInNeed_5 : decode cX0_endsInNeed 5 = .ok (.aload_n 0, 1) := by decide +kernel
theorem dX0_endsInNeed_6 : decode cX0_endsInNeed 6 = .ok (.getfield 20, 3) := by decide +kernel
theorem dX0_endsInNeed_9 : decode cX0_endsInNeed 9 = .ok (.getfield 88, 3) := by decide +kernel
theorem dX0_endsInNeed_12 : decode cX0_endsInNeed 12 = .ok (.if_icmp .ge 89, 3) := by decide +kernel
theorem dX0_endsInNeed_15 : decode cX0_endsInNeed 15 = .ok (.iconst 0, 1) := by decide +kernel
theorem dX0_endsInNeed_16 : decode cX0_endsInNeed 16 = .ok (.istore 4, 2) := by decide +kernel
theorem dX0_endsInNeed_18 : decode cX0_endsInNeed 18 = .ok (.iconst 0, 1) := by decide +kernel
theorem dX0_endsInNeed_19 : decode cX0_endsInNeed 19 = .ok (.istore 5, 2) := by decide +kernel
theorem dX0_endsInNeed_21 : decode cX0_endsInNeed 21 = .ok (.iload 5, 2) := by decide +kernel
theorem dX0_endsInNeed_23 : decode cX0_endsInNeed 23 = .ok (.aload_n 0, 1) := by decide +kernel
theorem dX0_endsInNeed_24 : decode cX0_endsInNeed 24 = .ok (.getfield 20, 3) := by decide +kernel
theorem dX0_endsInNeed_27 : decode cX0_endsInNeed 27 = .ok (.getfield 72, 3) := by decide +kernel
theorem dX0_endsInNeed_30 : decode cX0_endsInNeed 30 = .ok (.if_icmp .ge 52, 3) := by decide +kernel
theorem dX0_endsInNeed_33 : decode cX0_endsInNeed 33 = .ok (.aload_n 0, 1) := by decide +kernel
theorem dX0_endsInNeed_34 : decode cX0_endsInNeed 34 = .ok (.getfield 20, 3) := by decide +kernel
theorem dX0_endsInNeed_37 : decode cX0_endsInNeed 37 = .ok (.getfield 91, 3) := by decide +kernel
theorem dX0_endsInNeed_40 : decode cX0_endsInNeed 40 = .ok (.iload_n 3, 1) := by decide +kernel
theorem dX0_endsInNeed_41 : decode cX0_endsInNeed 41 = .ok (.aaload, 1) := by decide +kernel
theorem dX0_endsInNeed_42 : decode cX0_endsInNeed 42 = .ok (.invokevirtual 95, 3) := by decide +kernel
theorem dX0_endsInNeed_45 : decode cX0_endsInNeed 45 = .ok (.ifCond .eq 37, 3) := by decide +kernel
theorem dX0_endsInNeed_48 : decode cX0_endsInNeed 48 = .ok (.iload 4, 2) := by decide +kernel
theorem dX0_endsInNeed_50 : decode cX0_endsInNeed 50 = .ok (.ifCond .ne 19, 3) := by decide +kernel
theorem dX0_endsInNeed_53 : decode cX0_endsInNeed 53 = .ok (.aload_n 0, 1) := by decide +kernel
theorem dX0_endsInNeed_54 : decode cX0_endsInNeed 54 = .ok (.iload 5, 2) := by decide +kernel
theorem dX0_endsInNeed_56 : decode cX0_endsInNeed 56 = .ok (.iload_n 1, 1) := by decide +kernel
theorem dX0_endsInNeed_57 : decode cX0_endsInNeed 57 = .ok (.invokevirtual 76, 3) := by decide +kernel
theorem dX0_endsInNeed_60 : decode cX0_endsInNeed 60 = .ok (.iload_n 3, 1) := by decide +kernel
theorem dX0_endsInNeed_61 : decode cX0_endsInNeed 61 = .ok (.invokevirtual 101, 3) := by decide +kernel
theorem dX0_endsInNeed_64 : decode cX0_endsInNeed 64 = .ok (.dconst 0, 1) := by decide +kernel
theorem dX0_endsInNeed_65 : decode cX0_endsInNeed 65 = .ok (.dcmp .g, 1) := by decide +kernel
theorem dX0_endsInNeed_66 : decode cX0_endsInNeed 66 = .ok (.ifCond .ge 7, 3) := by decide +kernel
theorem dX0_endsInNeed_69 : decode cX0_endsInNeed 69 = .ok (.iconst 1, 1) := by decide +kernel
theorem dX0_endsInNeed_70 : decode cX0_endsInNeed 70 = .ok (.goto 4, 3) := by decide +kernel
theorem dX0_endsInNeed_73 : decode cX0_endsInNeed 73 = .ok (.iconst 0, 1) := by decide +kernel
theorem dX0_endsInNeed_74 : decode cX0_endsInNeed 74 = .ok (.istore 4, 2) := by decide +kernel
theorem dX0_endsInNeed_76 : decode cX0_endsInNeed 76 = .ok (.iinc 5 1, 3) := by decide +kernel
theorem dX0_endsInNeed_79 : decode cX0_endsInNeed 79 = .ok (.goto (-58), 3) := by decide +kernel
theorem dX0_endsInNeed_82 : decode cX0_endsInNeed 82 = .ok (.iload_n 2, 1) := by decide +kernel
theorem dX0_endsInNeed_83 : decode cX0_endsInNeed 83 = .ok (.iload 4, 2) := by decide +kernel
theorem dX0_endsInNeed_85 : decode cX0_endsInNeed 85 = .ok (.ifCond .eq 7, 3) := by decide +kernel
theorem dX0_endsInNeed_88 : decode cX0_endsInNeed 88 = .ok (.iconst 1, 1) := by decide +kernel
theorem dX0_endsInNeed_89 : decode cX0_endsInNeed 89 = .ok (.goto 4, 3) := by decide +kernel
theorem dX0_endsInNeed_92 : decode cX0_endsInNeed 92 = .ok (.iconst 0, 1) := by decide +kernel
theorem dX0_endsInNeed_93 : decode cX0_endsInNeed 93 = .ok (.iadd, 1) := by decide +kernel
theorem dX0_endsInNeed_94 : decode cX0_endsInNeed 94 = .ok (.istore_n 2, 1) := by decide +kernel
theorem dX0_endsInNeed_95 : decode cX0_endsInNeed 95 = .ok (.iinc 3 1, 3) := by decide +kernel
theorem dX0_endsInNeed_98 : decode cX0_endsInNeed 98 = .ok (.goto (-94), 3) := by decide +kernel
theorem dX0_endsInNeed_101 : decode cX0_endsInNeed 101 = .ok (.iload_n 2, 1) := by decide +kernel
theorem dX0_endsInNeed_102 : decode cX0_endsInNeed 102 = .ok (.ireturn, 1) := by decide +kernel
theorem dX0_leastWith_0 : decode cX0_leastWith 0 = .ok (.aload_n 0, 1) := by decide +kernel
theorem dX0_leastWith_1 : decode cX0_leastWith 1 = .ok (.getfield 20, 3) := by decide +kernel
theorem dX0_leastWith_4 : decode cX0_leastWith 4 = .ok (.getfield 91, 3) := by decide +kernel
theorem dX0_leastWith_7 : decode cX0_leastWith 7 = .ok (.iload_n 1, 1) := by decide +kernel
theorem dX0_leastWith_8 : decode cX0_leastWith 8 = .ok (.aaload, 1) := by decide +kernel
theorem dX0_leastWith_9 : decode cX0_leastWith 9 = .ok (.astore_n 3, 1) := by decide +kernel
theorem dX0_leastWith_10 : decode cX0_leastWith 10 = .ok (.aload_n 3, 1) := by decide +kernel
theorem dX0_leastWith_11 : decode cX0_leastWith 11 = .ok (.getfield 105, 3) := by decide +kernel
theorem dX0_leastWith_14 : decode cX0_leastWith 14 = .ok (.istore 4, 2) := by decide +kernel
theorem dX0_leastWith_16 : decode cX0_leastWith 16 = .ok (.aload_n 0, 1) := by decide +kernel
theorem dX0_leastWith_17 : decode cX0_leastWith 17 = .ok (.getfield 29, 3) := by decide +kernel
theorem dX0_leastWith_20 : decode cX0_leastWith 20 = .ok (.invokevirtual 56, 3) := by decide +kernel
theorem dX0_leastWith_23 : decode cX0_leastWith 23 = .ok (.aload_n 3, 1) := by decide +kernel
theorem dX0_leastWith_24 : decode cX0_leastWith 24 = .ok (.iload_n 2, 1) := by decide +kernel
theorem dX0_leastWith_25 : decode cX0_leastWith 25 = .ok (.putfield 105, 3) := by decide +kernel
theorem dX0_leastWith_28 : decode cX0_leastWith 28 = .ok (.aload_n 0, 1) := by decide +kernel
theorem dX0_leastWith_29 : decode cX0_leastWith 29 = .ok (.getfield 40, 3) := by decide +kernel
theorem dX0_leastWith_32 : decode cX0_leastWith 32 = .ok (.invokevirtual 108, 3) := by decide +kernel
theorem dX0_leastWith_35 : decode cX0_leastWith 35 = .ok (.ldc2_w 70, 3) := by decide +kernel
theorem dX0_leastWith_38 : decode cX0_leastWith 38 = .ok (.dstore 5, 2) := by decide +kernel
theorem dX0_leastWith_40 : decode cX0_leastWith 40 = .ok (.iconst 0, 1) := by decide +kernel
theorem dX0_leastWith_41 : decode cX0_leastWith 41 = .ok (.istore 7, 2) := by decide +kernel
theorem dX0_leastWith_43 : decode cX0_leastWith 43 = .ok (.iload 7, 2) := by decide +kernel
theorem dX0_leastWith_45 : decode cX0_leastWith 45 = .ok (.aload_n 0, 1) := by decide +kernel
theorem dX0_leastWith_46 : decode cX0_leastWith 46 = .ok (.getfield 20, 3) := by decide +kernel
theorem dX0_leastWith_49 : decode cX0_leastWith 49 = .ok (.getfield 72, 3) := by decide +kernel
theorem dX0_leastWith_52 : decode cX0_leastWith 52 = .ok (.if_icmp .ge 40, 3) := by decide +kernel
theorem dX0_leastWith_55 : decode cX0_leastWith 55 = .ok (.aload_n 0, 1) := by decide +kernel
theorem dX0_leastWith_56 : decode cX0_leastWith 56 = .ok (.getfield 46, 3) := by decide +kernel
theorem dX0_leastWith_59 : decode cX0_leastWith 59 = .ok (.aload_n 0, 1) := by decide +kernel
theorem dX0_leastWith_60 : decode cX0_leastWith 60 = .ok (.getfield 20, 3) := by decide +kernel
theorem dX0_leastWith_63 : decode cX0_leastWith 63 = .ok (.getfield 60, 3) := by decide +kernel
theorem dX0_leastWith_66 : decode cX0_leastWith 66 = .ok (.iload 7, 2) := by decide +kernel
theorem dX0_leastWith_68 : decode cX0_leastWith 68 = .ok (.aaload, 1) := by decide +kernel
theorem dX0_leastWith_69 : decode cX0_leastWith 69 = .ok (.invokevirtual 66, 3) := by decide +kernel
theorem dX0_leastWith_72 : decode cX0_leastWith 72 = .ok (.dload 5, 2) := by decide +kernel
theorem dX0_leastWith_74 : decode cX0_leastWith 74 = .ok (.aload_n 0, 1) := by decide +kernel
theorem dX0_leastWith_75 : decode cX0_leastWith 75 = .ok (.getfield 46, 3) := by decide +kernel
theorem dX0_leastWith_78 : decode cX0_leastWith 78 = .ok (.invokevirtual 80, 3) := by decide +kernel
theorem dX0_leastWith_81 : decode cX0_leastWith 81 = .ok (.invokestatic 84, 3) := by decide +kernel
theorem dX0_leastWith_84 : decode cX0_leastWith 84 = .ok (.dstore 5, 2) := by decide +kernel
theorem dX0_leastWith_86 : decode cX0_leastWith 86 = .ok (.iinc 7 1, 3) := by decide +kernel
theorem dX0_leastWith_89 : decode cX0_leastWith 89 = .ok (.goto (-46), 3) := by decide +kernel
theorem dX0_leastWith_92 : decode cX0_leastWith 92 = .ok (.aload_n 3, 1) := by decide +kernel
theorem dX0_leastWith_93 : decode cX0_leastWith 93 = .ok (.iload 4, 2) := by decide +kernel
theorem dX0_leastWith_95 : decode cX0_leastWith 95 = .ok (.putfield 105, 3) := by decide +kernel
theorem dX0_leastWith_98 : decode cX0_leastWith 98 = .ok (.dload 5, 2) := by decide +kernel
theorem dX0_leastWith_100 : decode cX0_leastWith 100 = .ok (.dreturn, 1) := by decide +kernel
theorem dX0_bestChange_0 : decode cX0_bestChange 0 = .ok (.aload_n 0, 1) := by decide +kernel
theorem dX0_bestChange_1 : decode cX0_bestChange 1 = .ok (.iconst 1, 1) := by decide +kernel
theorem dX0_bestChange_2 : decode cX0_bestChange 2 = .ok (.invokevirtual 110, 3) := by decide +kernel
theorem dX0_bestChange_5 : decode cX0_bestChange 5 = .ok (.dstore_n 1, 1) := by decide +kernel
theorem dX0_bestChange_6 : decode cX0_bestChange 6 = .ok (.iconst (-1), 1) := by decide +kernel
theorem dX0_bestChange_7 : decode cX0_bestChange 7 = .ok (.istore_n 3, 1) := by decide +kernel
theorem dX0_bestChange_8 : decode cX0_bestChange 8 = .ok (.iconst 0, 1) := by decide +kernel
theorem dX0_bestChange_9 : decode cX0_bestChange 9 = .ok (.istore 4, 2) := by decide +kernel
theorem dX0_bestChange_11 : decode cX0_bestChange 11 = .ok (.iload 4, 2) := by decide +kernel
theorem dX0_bestChange_13 : decode cX0_bestChange 13 = .ok (.aload_n 0, 1) := by decide +kernel
theorem dX0_bestChange_14 : decode cX0_bestChange 14 = .ok (.getfield 20, 3) := by decide +kernel
theorem dX0_bestChange_17 : decode cX0_bestChange 17 = .ok (.getfield 88, 3) := by decide +kernel
theorem dX0_bestChange_20 : decode cX0_bestChange 20 = .ok (.if_icmp .ge 77, 3) := by decide +kernel
theorem dX0_bestChange_23 : decode cX0_bestChange 23 = .ok (.iconst 0, 1) := by decide +kernel
theorem dX0_bestChange_24 : decode cX0_bestChange 24 = .ok (.istore 5, 2) := by decide +kernel
theorem dX0_bestChange_26 : decode cX0_bestChange 26 = .ok (.iload 5, 2) := by decide +kernel
theorem dX0_bestChange_28 : decode cX0_bestChange 28 = .ok (.iconst 3, 1) := by decide +kernel
theorem dX0_bestChange_29 : decode cX0_bestChange 29 = .ok (.if_icmp .ge 62, 3) := by decide +kernel
theorem dX0_bestChange_32 : decode cX0_bestChange 32 = .ok (.aload_n 0, 1) := by decide +kernel
theorem dX0_bestChange_33 : decode cX0_bestChange 33 = .ok (.getfield 20, 3) := by decide +kernel
theorem dX0_bestChange_36 : decode cX0_bestChange 36 = .ok (.getfield 91, 3) := by decide +kernel
theorem dX0_bestChange_39 : decode cX0_bestChange 39 = .ok (.iload 4, 2) := by decide +kernel
theorem dX0_bestChange_41 : decode cX0_bestChange 41 = .ok (.aaload, 1) := by decide +kernel
theorem dX0_bestChange_42 : decode cX0_bestChange 42 = .ok (.getfield 105, 3) := by decide +kernel
theorem dX0_bestChange_45 : decode cX0_bestChange 45 = .ok (.iconst 1, 1) := by decide +kernel
theorem dX0_bestChange_46 : decode cX0_bestChange 46 = .ok (.iload 5, 2) := by decide +kernel
theorem dX0_bestChange_48 : decode cX0_bestChange 48 = .ok (.ishl, 1) := by decide +kernel
theorem dX0_bestChange_49 : decode cX0_bestChange 49 = .ok (.if_icmp .ne 6, 3) := by decide +kernel
theorem dX0_bestChange_52 : decode cX0_bestChange 52 = .ok (.goto 33, 3) := by decide +kernel
theorem dX0_bestChange_55 : decode cX0_bestChange 55 = .ok (.aload_n 0, 1) := by decide +kernel
theorem dX0_bestChange_56 : decode cX0_bestChange 56 = .ok (.iload 4, 2) := by decide +kernel
theorem dX0_bestChange_58 : decode cX0_bestChange 58 = .ok (.iconst 1, 1) := by decide +kernel
theorem dX0_bestChange_59 : decode cX0_bestChange 59 = .ok (.iload 5, 2) := by decide +kernel
theorem dX0_bestChange_61 : decode cX0_bestChange 61 = .ok (.ishl, 1) := by decide +kernel
theorem dX0_bestChange_62 : decode cX0_bestChange 62 = .ok (.invokevirtual 114, 3) := by decide +kernel
theorem dX0_bestChange_65 : decode cX0_bestChange 65 = .ok (.dstore 6, 2) := by decide +kernel
theorem dX0_bestChange_67 : decode cX0_bestChange 67 = .ok (.dload 6, 2) := by decide +kernel
theorem dX0_bestChange_69 : decode cX0_bestChange 69 = .ok (.dload_n 1, 1) := by decide +kernel
theorem dX0_bestChange_70 : decode cX0_bestChange 70 = .ok (.dcmp .l, 1) := by decide +kernel
theorem dX0_bestChange_71 : decode cX0_bestChange 71 = .ok (.ifCond .le 14, 3) := by decide +kernel
theorem dX0_bestChange_74 : decode cX0_bestChange 74 = .ok (.dload 6, 2) := by decide +kernel
theorem dX0_bestChange_76 : decode cX0_bestChange 76 = .ok (.dstore_n 1, 1) := by decide +kernel
theorem dX0_bestChange_77 : decode cX0_bestChange 77 = .ok (.iconst 4, 1) := by decide +kernel
theorem dX0_bestChange_78 : decode cX0_bestChange 78 = .ok (.iload 4, 2) := by decide +kernel
theorem dX0_bestChange_80 : decode cX0_bestChange 80 = .ok (.imul, 1) := by decide +kernel
theorem dX0_bestChange_81 : decode cX0_bestChange 81 = .ok (.iload 5, 2) := by decide +kernel
theorem dX0_bestChange_83 : decode cX0_bestChange 83 = .ok (.iadd, 1) := by decide +kernel
theorem dX0_bestChange_84 : decode cX0_bestChange 84 = .ok (.istore_n 3, 1) := by decide +kernel
theorem dX0_bestChange_85 : decode cX0_bestChange 85 = .ok (.iinc 5 1, 3) := by decide +kernel
theorem dX0_bestChange_88 : decode cX0_bestChange 88 = .ok (.goto (-62), 3) := by decide +kernel
theorem dX0_bestChange_91 : decode cX0_bestChange 91 = .ok (.iinc 4 1, 3) := by decide +kernel
theorem dX0_bestChange_94 : decode cX0_bestChange 94 = .ok (.goto (-83), 3) := by decide +kernel
theorem dX0_bestChange_97 : decode cX0_bestChange 97 = .ok (.iload_n 3, 1) := by decide +kernel
theorem dX0_bestChange_98 : decode cX0_bestChange 98 = .ok (.ireturn, 1) := by decide +kernel
theorem dX0_makesIdle_0 : decode cX0_makesIdle 0 = .ok (.iconst 1, 1) := by decide +kernel
theorem dX0_makesIdle_1 : decode cX0_makesIdle 1 = .ok (.istore_n 3, 1) := by decide +kernel
theorem dX0_makesIdle_2 : decode cX0_makesIdle 2 = .ok (.iconst 0, 1) := by decide +kernel
theorem dX0_makesIdle_3 : decode cX0_makesIdle 3 = .ok (.istore 4, 2) := by decide +kernel
theorem dX0_makesIdle_5 : decode cX0_makesIdle 5 = .ok (.iload 4, 2) := by decide +kernel
theorem dX0_makesIdle_7 : decode cX0_makesIdle 7 = .ok (.aload_n 0, 1) := by decide +kernel
theorem dX0_makesIdle_8 : decode cX0_makesIdle 8 = .ok (.getfield 20, 3) := by decide +kernel
theorem dX0_makesIdle_11 : decode cX0_makesIdle 11 = .ok (.getfield 88, 3) := by decide +kernel
theorem dX0_makesIdle_14 : decode cX0_makesIdle 14 = .ok (.if_icmp .ge 115, 3) := by decide +kernel
theorem dX0_makesIdle_17 : decode cX0_makesIdle 17 = .ok (.aload_n 0, 1) := by decide +kernel
theorem dX0_makesIdle_18 : decode cX0_makesIdle 18 = .ok (.getfield 20, 3) := by decide +kernel
theorem dX0_makesIdle_21 : decode cX0_makesIdle 21 = .ok (.getfield 91, 3) := by decide +kernel
theorem dX0_makesIdle_24 : decode cX0_makesIdle 24 = .ok (.iload 4, 2) := by decide +kernel
theorem dX0_makesIdle_26 : decode cX0_makesIdle 26 = .ok (.aaload, 1) := by decide +kernel
theorem dX0_makesIdle_27 : decode cX0_makesIdle 27 = .ok (.invokevirtual 95, 3) := by decide +kernel
theorem dX0_makesIdle_30 : decode cX0_makesIdle 30 = .ok (.ifCond .eq 93, 3) := by decide +kernel
theorem dX0_makesIdle_33 : decode cX0_makesIdle 33 = .ok (.aload_n 0, 1) := by decide +kernel
theorem dX0_makesIdle_34 : decode cX0_makesIdle 34 = .ok (.iload_n 2, 1) := by decide +kernel
theorem dX0_makesIdle_35 : decode cX0_makesIdle 35 = .ok (.iconst 1, 1) := by decide +kernel
theorem dX0_makesIdle_36 : decode cX0_makesIdle 36 = .ok (.invokevirtual 76, 3) := by decide +kernel
theorem dX0_makesIdle_39 : decode cX0_makesIdle 39 = .ok (.iload 4, 2) := by decide +kernel
theorem dX0_makesIdle_41 : decode cX0_makesIdle 41 = .ok (.invokevirtual 101, 3) := by decide +kernel
theorem dX0_makesIdle_44 : decode cX0_makesIdle 44 = .ok (.aload_n 0, 1) := by decide +kernel
theorem dX0_makesIdle_45 : decode cX0_makesIdle 45 = .ok (.iload_n 1, 1) := by decide +kernel
theorem dX0_makesIdle_46 : decode cX0_makesIdle 46 = .ok (.iconst 1, 1) := by decide +kernel
theorem dX0_makesIdle_47 : decode cX0_makesIdle 47 = .ok (.invokevirtual 76, 3) := by decide +kernel
theorem dX0_makesIdle_50 : decode cX0_makesIdle 50 = .ok (.iload 4, 2) := by decide +kernel
theorem dX0_makesIdle_52 : decode cX0_makesIdle 52 = .ok (.invokevirtual 101, 3) := by decide +kernel
theorem dX0_makesIdle_55 : decode cX0_makesIdle 55 = .ok (.dsub, 1) := by decide +kernel
theorem dX0_makesIdle_56 : decode cX0_makesIdle 56 = .ok (.dstore 5, 2) := by decide +kernel
theorem dX0_makesIdle_58 : decode cX0_makesIdle 58 = .ok (.aload_n 0, 1) := by decide +kernel
theorem dX0_makesIdle_59 : decode cX0_makesIdle 59 = .ok (.iload_n 2, 1) := by decide +kernel
theorem dX0_makesIdle_60 : decode cX0_makesIdle 60 = .ok (.iconst 0, 1) := by decide +kernel
theorem dX0_makesIdle_61 : decode cX0_makesIdle 61 = .ok (.invokevirtual 76, 3) := by decide +kernel
theorem dX0_makesIdle_64 : decode cX0_makesIdle 64 = .ok (.iload 4, 2) := by decide +kernel
theorem dX0_makesIdle_66 : decode cX0_makesIdle 66 = .ok (.invokevirtual 101, 3) := by decide +kernel
theorem dX0_makesIdle_69 : decode cX0_makesIdle 69 = .ok (.aload_n 0, 1) := by decide +kernel
theorem dX0_makesIdle_70 : decode cX0_makesIdle 70 = .ok (.iload_n 1, 1) := by decide +kernel
theorem dX0_makesIdle_71 : decode cX0_makesIdle 71 = .ok (.iconst 0, 1) := by decide +kernel
theorem dX0_makesIdle_72 : decode cX0_makesIdle 72 = .ok (.invokevirtual 76, 3) := by decide +kernel
theorem dX0_makesIdle_75 : decode cX0_makesIdle 75 = .ok (.iload 4, 2) := by decide +kernel
theorem dX0_makesIdle_77 : decode cX0_makesIdle 77 = .ok (.invokevirtual 101, 3) := by decide +kernel
theorem dX0_makesIdle_80 : decode cX0_makesIdle 80 = .ok (.dsub, 1) := by decide +kernel
theorem dX0_makesIdle_81 : decode cX0_makesIdle 81 = .ok (.dstore 7, 2) := by decide +kernel
theorem dX0_makesIdle_83 : decode cX0_makesIdle 83 = .ok (.dload 5, 2) := by decide +kernel
theorem dX0_makesIdle_85 : decode cX0_makesIdle 85 = .ok (.dconst 0, 1) := by decide +kernel
theorem dX0_makesIdle_86 : decode cX0_makesIdle 86 = .ok (.dcmp .g, 1) := by decide +kernel
theorem dX0_makesIdle_87 : decode cX0_makesIdle 87 = .ok (.ifCond .lt 10, 3) := by decide +kernel
theorem dX0_makesIdle_90 : decode cX0_makesIdle 90 = .ok (.dload 7, 2) := by decide +kernel
theorem dX0_makesIdle_92 : decode cX0_makesIdle 92 = .ok (.dconst 0, 1) := by decide +kernel
theorem dX0_makesIdle_93 : decode cX0_makesIdle 93 = .ok (.dcmp .g, 1) := by decide +kernel
theorem dX0_makesIdle_94 : decode cX0_makesIdle 94 = .ok (.ifCond .ge 5, 3) := by decide +kernel
theorem dX0_makesIdle_97 : decode cX0_makesIdle 97 = .ok (.iconst 0, 1) := by decide +kernel
theorem dX0_makesIdle_98 : decode cX0_makesIdle 98 = .ok (.ireturn, 1) := by decide +kernel
theorem dX0_makesIdle_99 : decode cX0_makesIdle 99 = .ok (.iload_n 3, 1) := by decide +kernel
theorem dX0_makesIdle_100 : decode cX0_makesIdle 100 = .ok (.ifCond .eq 21, 3) := by decide +kernel
theorem dX0_makesIdle_103 : decode cX0_makesIdle 103 = .ok (.dload 5, 2) := by decide +kernel
theorem dX0_makesIdle_105 : decode cX0_makesIdle 105 = .ok (.dconst 0, 1) := by decide +kernel
theorem dX0_makesIdle_106 : decode cX0_makesIdle 106 = .ok (.dcmp .l, 1) := by decide +kernel
theorem dX0_makesIdle_107 : decode cX0_makesIdle 107 = .ok (.ifCond .ne 14, 3) := by decide +kernel
theorem dX0_makesIdle_110 : decode cX0_makesIdle 110 = .ok (.dload 7, 2) := by decide +kernel
theorem dX0_makesIdle_112 : decode cX0_makesIdle 112 = .ok (.dconst 0, 1) := by decide +kernel
theorem dX0_makesIdle_113 : decode cX0_makesIdle 113 = .ok (.dcmp .l, 1) := by decide +kernel
theorem dX0_makesIdle_114 : decode cX0_makesIdle 114 = .ok (.ifCond .ne 7, 3) := by decide +kernel
theorem dX0_makesIdle_117 : decode cX0_makesIdle 117 = .ok (.iconst 1, 1) := by decide +kernel
theorem dX0_makesIdle_118 : decode cX0_makesIdle 118 = .ok (.goto 4, 3) := by decide +kernel
theorem dX0_makesIdle_121 : decode cX0_makesIdle 121 = .ok (.iconst 0, 1) := by decide +kernel
theorem dX0_makesIdle_122 : decode cX0_makesIdle 122 = .ok (.istore_n 3, 1) := by decide +kernel
theorem dX0_makesIdle_123 : decode cX0_makesIdle 123 = .ok (.iinc 4 1, 3) := by decide +kernel
theorem dX0_makesIdle_126 : decode cX0_makesIdle 126 = .ok (.goto (-121), 3) := by decide +kernel
theorem dX0_makesIdle_129 : decode cX0_makesIdle 129 = .ok (.iload_n 3, 1) := by decide +kernel
theorem dX0_makesIdle_130 : decode cX0_makesIdle 130 = .ok (.ifCond .eq 8, 3) := by decide +kernel
theorem dX0_makesIdle_133 : decode cX0_makesIdle 133 = .ok (.iload_n 2, 1) := by decide +kernel
theorem dX0_makesIdle_134 : decode cX0_makesIdle 134 = .ok (.iload_n 1, 1) := by decide +kernel
theorem dX0_makesIdle_135 : decode cX0_makesIdle 135 = .ok (.if_icmp .le 7, 3) := by decide +kernel
theorem dX0_makesIdle_138 : decode cX0_makesIdle 138 = .ok (.iconst 1, 1) := by decide +kernel
theorem dX0_makesIdle_139 : decode cX0_makesIdle 139 = .ok (.goto 4, 3) := by decide +kernel
theorem dX0_makesIdle_142 : decode cX0_makesIdle 142 = .ok (.iconst 0, 1) := by decide +kernel
theorem dX0_makesIdle_143 : decode cX0_makesIdle 143 = .ok (.ireturn, 1) := by decide +kernel
theorem dX1_init_0 : decode cX1_init 0 = .ok (.aload_n 0, 1) := by decide +kernel
theorem dX1_init_1 : decode cX1_init 1 = .ok (.invokespecial 3, 3) := by decide +kernel
theorem dX1_init_4 : decode cX1_init 4 = .ok (.aload_n 0, 1) := by decide +kernel
theorem dX1_init_5 : decode cX1_init 5 = .ok (.iconst 4, 1) := by decide +kernel
theorem dX1_init_6 : decode cX1_init 6 = .ok (.anewarray 9, 3) := by decide +kernel
theorem dX1_init_9 : decode cX1_init 9 = .ok (.putfield 11, 3) := by decide +kernel
theorem dX1_init_12 : decode cX1_init 12 = .ok (.aload_n 0, 1) := by decide +kernel
theorem dX1_init_13 : decode cX1_init 13 = .ok (.iconst 3, 1) := by decide +kernel
theorem dX1_init_14 : decode cX1_init 14 = .ok (.anewarray 17, 3) := by decide +kernel
theorem dX1_init_17 : decode cX1_init 17 = .ok (.putfield 19, 3) := by decide +kernel
theorem dX1_init_20 : decode cX1_init 20 = .ok (.aload_n 0, 1) := by decide +kernel
theorem dX1_init_21 : decode cX1_init 21 = .ok (.bipush 16, 2) := by decide +kernel
theorem dX1_init_23 : decode cX1_init 23 = .ok (.anewarray 23, 3) := by decide +kernel
theorem dX1_init_26 : decode cX1_init 26 = .ok (.putfield 25, 3) := by decide +kernel
theorem dX1_init_29 : decode cX1_init 29 = .ok (.aload_n 0, 1) := by decide +kernel
theorem dX1_init_30 : decode cX1_init 30 = .ok (.bipush 6, 2) := by decide +kernel
theorem dX1_init_32 : decode cX1_init 32 = .ok (.anewarray 29, 3) := by decide +kernel
theorem dX1_init_35 : decode cX1_init 35 = .ok (.putfield 31, 3) := by decide +kernel
theorem dX1_init_38 : decode cX1_init 38 = .ok (.aload_n 0, 1) := by decide +kernel
theorem dX1_init_39 : decode cX1_init 39 = .ok (.iconst 1, 1) := by decide +kernel
theorem dX1_init_40 : decode cX1_init 40 = .ok (.putfield 35, 3) := by decide +kernel
theorem dX1_init_43 : decode cX1_init 43 = .ok (.iconst 0, 1) := by decide +kernel
theorem dX1_init_44 : decode cX1_init 44 = .ok (.istore_n 1, 1) := by decide +kernel
theorem dX1_init_45 : decode cX1_init 45 = .ok (.iload_n 1, 1) := by decide +kernel
theorem dX1_init_46 : decode cX1_init 46 = .ok (.iconst 4, 1) := by decide +kernel
theorem dX1_init_47 : decode cX1_init 47 = .ok (.if_icmp .ge 22, 3) := by decide +kernel
theorem dX1_init_50 : decode cX1_init 50 = .ok (.aload_n 0, 1) := by decide +kernel
theorem dX1_init_51 : decode cX1_init 51 = .ok (.getfield 11, 3) := by decide +kernel
theorem dX1_init_54 : decode cX1_init 54 = .ok (.iload_n 1, 1) := by decide +kernel
theorem dX1_init_55 : decode cX1_init 55 = .ok (.new 9, 3) := by decide +kernel
theorem dX1_init_58 : decode cX1_init 58 = .ok (.dup, 1) := by decide +kernel
theorem dX1_init_59 : decode cX1_init 59 = .ok (.invokespecial 39, 3) := by decide +kernel
theorem dX1_init_62 : decode cX1_init 62 = .ok (.aastore, 1) := by decide +kernel
theorem dX1_init_63 : decode cX1_init 63 = .ok (.iinc 1 1, 3) := by decide +kernel
theorem dX1_init_66 : decode cX1_init 66 = .ok (.goto (-21), 3) := by decide +kernel
theorem dX1_init_69 : decode cX1_init 69 = .ok (.iconst 0, 1) := by decide +kernel
theorem dX1_init_70 : decode cX1_init 70 = .ok (.istore_n 1, 1) := by decide +kernel
theorem dX1_init_71 : decode cX1_init 71 = .ok (.iload_n 1, 1) := by decide +kernel
theorem dX1_init_72 : decode cX1_init 72 = .ok (.iconst 3, 1) := by decide +kernel
theorem dX1_init_73 : decode cX1_init 73 = .ok (.if_icmp .ge 22, 3) := by decide +kernel
theorem dX1_init_76 : decode cX1_init 76 = .ok (.aload_n 0, 1) := by decide +kernel
theorem dX1_init_77 : decode cX1_init 77 = .ok (.getfield 19, 3) := by decide +kernel
theorem dX1_init_80 : decode cX1_init 80 = .ok (.iload_n 1, 1) := by decide +kernel
theorem dX1_init_81 : decode cX1_init 81 = .ok (.new 17, 3) := by decide +kernel
theorem dX1_init_84 : decode cX1_init 84 = .ok (.dup, 1) := by decide +kernel
theorem dX1_init_85 : decode cX1_init 85 = .ok (.invokespecial 40, 3) := by decide +kernel
theorem dX1_init_88 : decode cX1_init 88 = .ok (.aastore, 1) := by decide +kernel
theorem dX1_init_89 : decode cX1_init 89 = .ok (.iinc 1 1, 3) := by decide +kernel
theorem dX1_init_92 : decode cX1_init 92 = .ok (.goto (-21), 3) := by decide +kernel
theorem dX1_init_95 : decode cX1_init 95 = .ok (.iconst 0, 1) := by decide +kernel
theorem dX1_init_96 : decode cX1_init 96 = .ok (.istore_n 1, 1) := by decide +kernel
theorem dX1_init_97 : decode cX1_init 97 = .ok (.iload_n 1, 1) := by decide +kernel
theorem dX1_init_98 : decode cX1_init 98 = .ok (.bipush 16, 2) := by decide +kernel
theorem dX1_init_100 : decode cX1_init 100 = .ok (.if_icmp .ge 28, 3) := by decide +kernel
theorem dX1_init_103 : decode cX1_init 103 = .ok (.aload_n 0, 1) := by decide +kernel
theorem dX1_init_104 : decode cX1_init 104 = .ok (.getfield 25, 3) := by decide +kernel
theorem dX1_init_107 : decode cX1_init 107 = .ok (.iload_n 1, 1) := by decide +kernel
theorem dX1_init_108 : decode cX1_init 108 = .ok (.new 23, 3) := by decide +kernel
theorem dX1_init_111 : decode cX1_init 111 = .ok (.dup, 1) := by decide +kernel
theorem dX1_init_112 : decode cX1_init 112 = .ok (.aload_n 0, 1) := by decide +kernel
theorem dX1_init_113 : decode cX1_init 113 = .ok (.getfield 11, 3) := by decide +kernel
theorem dX1_init_116 : decode cX1_init 116 = .ok (.iconst 0, 1) := by decide +kernel
theorem dX1_init_117 : decode cX1_init 117 = .ok (.aaload, 1) := by decide +kernel
theorem dX1_init_118 : decode cX1_init 118 = .ok (.invokespecial 41, 3) := by decide +kernel
theorem dX1_init_121 : decode cX1_init 121 = .ok (.aastore, 1) := by decide +kernel
theorem dX1_init_122 : decode cX1_init 122 = .ok (.iinc 1 1, 3) := by decide +kernel
theorem dX1_init_125 : decode cX1_init 125 = .ok (.goto (-28), 3) := by decide +kernel
theorem dX1_init_128 : decode cX1_init 128 = .ok (.iconst 0, 1) := by decide +kernel
theorem dX1_init_129 : decode cX1_init 129 = .ok (.istore_n 1, 1) := by decide +kernel
theorem dX1_init_130 : decode cX1_init 130 = .ok (.iload_n 1, 1) := by decide +kernel
theorem dX1_init_131 : decode cX1_init 131 = .ok (.bipush 6, 2) := by decide +kernel
theorem dX1_init_133 : decode cX1_init 133 = .ok (.if_icmp .ge 22, 3) := by decide +kernel
theorem dX1_init_136 : decode cX1_init 136 = .ok (.aload_n 0, 1) := by decide +kernel
theorem dX1_init_137 : decode cX1_init 137 = .ok (.getfield 31, 3) := by decide +kernel
theorem dX1_init_140 : decode cX1_init 140 = .ok (.iload_n 1, 1) := by decide +kernel
theorem dX1_init_141 : decode cX1_init 141 = .ok (.new 29, 3) := by decide +kernel
theorem dX1_init_144 : decode cX1_init 144 = .ok (.dup, 1) := by decide +kernel
theorem dX1_init_145 : decode cX1_init 145 = .ok (.invokespecial 44, 3) := by decide +kernel
theorem dX1_init_148 : decode cX1_init 148 = .ok (.aastore, 1) := by decide +kernel
theorem dX1_init_149 : decode cX1_init 149 = .ok (.iinc 1 1, 3) := by decide +kernel
theorem dX1_init_152 : decode cX1_init 152 = .ok (.goto (-22), 3) := by decide +kernel
theorem dX1_init_155 : decode cX1_init 155 = .ok (.return_, 1) := by decide +kernel
theorem dX1_hasClock_0 : decode cX1_hasClock 0 = .ok (.iload_n 1, 1) := by decide +kernel
theorem dX1_hasClock_1 : decode cX1_hasClock 1 = .ok (.ifCond .lt 15, 3) := by decide +kernel
theorem dX1_hasClock_4 : decode cX1_hasClock 4 = .ok (.iload_n 1, 1) := by decide +kernel
theorem dX1_hasClock_5 : decode cX1_hasClock 5 = .ok (.aload_n 0, 1) := by decide +kernel
theorem dX1_hasClock_6 : decode cX1_hasClock 6 = .ok (.getfield 45, 3) := by decide +kernel
theorem dX1_hasClock_9 : decode cX1_hasClock 9 = .ok (.if_icmp .ge 7, 3) := by decide +kernel
theorem dX1_hasClock_12 : decode cX1_hasClock 12 = .ok (.iconst 1, 1) := by decide +kernel
theorem dX1_hasClock_13 : decode cX1_hasClock 13 = .ok (.goto 4, 3) := by decide +kernel
theorem dX1_hasClock_16 : decode cX1_hasClock 16 = .ok (.iconst 0, 1) := by decide +kernel
theorem dX1_hasClock_17 : decode cX1_hasClock 17 = .ok (.ireturn, 1) := by decide +kernel
theorem dX1_hasCorner_0 : decode cX1_hasCorner 0 = .ok (.iload_n 1, 1) := by decide +kernel
theorem dX1_hasCorner_1 : decode cX1_hasCorner 1 = .ok (.ifCond .lt 15, 3) := by decide +kernel
theorem dX1_hasCorner_4 : decode cX1_hasCorner 4 = .ok (.iload_n 1, 1) := by decide +kernel
theorem dX1_hasCorner_5 : decode cX1_hasCorner 5 = .ok (.aload_n 0, 1) := by decide +kernel
theorem dX1_hasCorner_6 : decode cX1_hasCorner 6 = .ok (.getfield 35, 3) := by decide +kernel
theorem dX1_hasCorner_9 : decode cX1_hasCorner 9 = .ok (.if_icmp .ge 7, 3) := by decide +kernel
theorem dX1_hasCorner_12 : decode cX1_hasCorner 12 = .ok (.iconst 1, 1) := by decide +kernel
theorem dX1_hasCorner_13 : decode cX1_hasCorner 13 = .ok (.goto 4, 3) := by decide +kernel
theorem dX1_hasCorner_16 : decode cX1_hasCorner 16 = .ok (.iconst 0, 1) := by decide +kernel
theorem dX1_hasCorner_17 : decode cX1_hasCorner 17 = .ok (.ireturn, 1) := by decide +kernel
theorem dX1_hasNode_0 : decode cX1_hasNode 0 = .ok (.iload_n 1, 1) := by decide +kernel
theorem dX1_hasNode_1 : decode cX1_hasNode 1 = .ok (.ifCond .lt 15, 3) := by decide +kernel
theorem dX1_hasNode_4 : decode cX1_hasNode 4 = .ok (.iload_n 1, 1) := by decide +kernel
theorem dX1_hasNode_5 : decode cX1_hasNode 5 = .ok (.aload_n 0, 1) := by decide +kernel
theorem dX1_hasNode_6 : decode cX1_hasNode 6 = .ok (.getfield 48, 3) := by decide +kernel
theorem dX1_hasNode_9 : decode cX1_hasNode 9 = .ok (.if_icmp .ge 7, 3) := by decide +kernel
theorem dX1_hasNode_12 : decode cX1_hasNode 12 = .ok (.iconst 1, 1) := by decide +kernel
theorem dX1_hasNode_13 : decode cX1_hasNode 13 = .ok (.goto 4, 3) := by decide +kernel
theorem dX1_hasNode_16 : decode cX1_hasNode 16 = .ok (.iconst 0, 1) := by decide +kernel
theorem dX1_hasNode_17 : decode cX1_hasNode 17 = .ok (.ireturn, 1) := by decide +kernel
theorem dX1_addClock_0 : decode cX1_addClock 0 = .ok (.aload_n 0, 1) := by decide +kernel
theorem dX1_addClock_1 : decode cX1_addClock 1 = .ok (.getfield 11, 3) := by decide +kernel
theorem dX1_addClock_4 : decode cX1_addClock 4 = .ok (.aload_n 0, 1) := by decide +kernel
theorem dX1_addClock_5 : decode cX1_addClock 5 = .ok (.getfield 45, 3) := by decide +kernel
theorem dX1_addClock_8 : decode cX1_addClock 8 = .ok (.aaload, 1) := by decide +kernel
theorem dX1_addClock_9 : decode cX1_addClock 9 = .ok (.astore 6, 2) := by decide +kernel
theorem dX1_addClock_11 : decode cX1_addClock 11 = .ok (.aload 6, 2) := by decide +kernel
theorem dX1_addClock_13 : decode cX1_addClock 13 = .ok (.iload_n 1, 1) := by decide +kernel
theorem dX1_addClock_14 : decode cX1_addClock 14 = .ok (.putfield 51, 3) := by decide +kernel
theorem dX1_addClock_17 : decode cX1_addClock 17 = .ok (.aload 6, 2) := by decide +kernel
theorem dX1_addClock_19 : decode cX1_addClock 19 = .ok (.iload_n 2, 1) := by decide +kernel
theorem dX1_addClock_20 : decode cX1_addClock 20 = .ok (.putfield 54, 3) := by decide +kernel
theorem dX1_addClock_23 : decode cX1_addClock 23 = .ok (.aload 6, 2) := by decide +kernel
theorem dX1_addClock_25 : decode cX1_addClock 25 = .ok (.iload_n 3, 1) := by decide +kernel
theorem dX1_addClock_26 : decode cX1_addClock 26 = .ok (.putfield 57, 3) := by decide +kernel
theorem dX1_addClock_29 : decode cX1_addClock 29 = .ok (.aload 6, 2) := by decide +kernel
theorem dX1_addClock_31 : decode cX1_addClock 31 = .ok (.iload 4, 2) := by decide +kernel
theorem dX1_addClock_33 : decode cX1_addClock 33 = .ok (.putfield 60, 3) := by decide +kernel
theorem dX1_addClock_36 : decode cX1_addClock 36 = .ok (.aload 6, 2) := by decide +kernel
theorem dX1_addClock_38 : decode cX1_addClock 38 = .ok (.iload 5, 2) := by decide +kernel
theorem dX1_addClock_40 : decode cX1_addClock 40 = .ok (.putfield 63, 3) := by decide +kernel
theorem dX1_addClock_43 : decode cX1_addClock 43 = .ok (.aload_n 0, 1) := by decide +kernel
theorem dX1_addClock_44 : decode cX1_addClock 44 = .ok (.dup, 1) := by decide +kernel
theorem dX1_addClock_45 : decode cX1_addClock 45 = .ok (.getfield 45, 3) := by decide +kernel
theorem dX1_addClock_48 : decode cX1_addClock 48 = .ok (.dup_x1, 1) := by decide +kernel
theorem dX1_addClock_49 : decode cX1_addClock 49 = .ok (.iconst 1, 1) := by decide +kernel
theorem dX1_addClock_50 : decode cX1_addClock 50 = .ok (.iadd, 1) := by decide +kernel
theorem dX1_addClock_51 : decode cX1_addClock 51 = .ok (.putfield 45, 3) := by decide +kernel
theorem dX1_addClock_54 : decode cX1_addClock 54 = .ok (.ireturn, 1) := by decide +kernel
theorem dX1_addCorner_0 : decode cX1_addCorner 0 = .ok (.aload_n 0, 1) := by decide +kernel
theorem dX1_addCorner_1 : decode cX1_addCorner 1 = .ok (.getfield 19, 3) := by decide +kernel
theorem dX1_addCorner_4 : decode cX1_addCorner 4 = .ok (.aload_n 0, 1) := by decide +kernel
theorem dX1_addCorner_5 : decode cX1_addCorner 5 = .ok (.getfield 35, 3) := by decide +kernel
theorem dX1_addCorner_8 : decode cX1_addCorner 8 = .ok (.aaload, 1) := by decide +kernel
theorem dX1_addCorner_9 : decode cX1_addCorner 9 = .ok (.iload_n 1, 1) := by decide +kernel
theorem dX1_addCorner_10 : decode cX1_addCorner 10 = .ok (.i2d, 1) := by decide +kernel
theorem dX1_addCorner_11 : decode cX1_addCorner 11 = .ok (.ldc2_w 66, 3) := by decide +kernel
theorem dX1_addCorner_14 : decode cX1_addCorner 14 = .ok (.dmul, 1) := by decide +kernel
theorem dX1_addCorner_15 : decode cX1_addCorner 15 = .ok (.putfield 68, 3) := by decide +kernel
theorem dX1_addCorner_18 : decode cX1_addCorner 18 = .ok (.aload_n 0, 1) := by decide +kernel
theorem dX1_addCorner_19 : decode cX1_addCorner 19 = .ok (.getfield 19, 3) := by decide +kernel
theorem dX1_addCorner_22 : decode cX1_addCorner 22 = .ok (.aload_n 0, 1) := by decide +kernel
theorem dX1_addCorner_23 : decode cX1_addCorner 23 = .ok (.getfield 35, 3) := by decide +kernel
theorem dX1_addCorner_26 : decode cX1_addCorner 26 = .ok (.aaload, 1) := by decide +kernel
theorem dX1_addCorner_27 : decode cX1_addCorner 27 = .ok (.iload_n 2, 1) := by decide +kernel
theorem dX1_addCorner_28 : decode cX1_addCorner 28 = .ok (.i2d, 1) := by decide +kernel
theorem dX1_addCorner_29 : decode cX1_addCorner 29 = .ok (.ldc2_w 66, 3) := by decide +kernel
theorem dX1_addCorner_32 : decode cX1_addCorner 32 = .ok (.dmul, 1) := by decide +kernel
theorem dX1_addCorner_33 : decode cX1_addCorner 33 = .ok (.putfield 72, 3) := by decide +kernel
theorem dX1_addCorner_36 : decode cX1_addCorner 36 = .ok (.aload_n 0, 1) := by decide +kernel
theorem dX1_addCorner_37 : decode cX1_addCorner 37 = .ok (.dup, 1) := by decide +kernel
theorem dX1_addCorner_38 : decode cX1_addCorner 38 = .ok (.getfield 35, 3) := by decide +kernel
theorem dX1_addCorner_41 : decode cX1_addCorner 41 = .ok (.dup_x1, 1) := by decide +kernel
theorem dX1_addCorner_42 : decode cX1_addCorner 42 = .ok (.iconst 1, 1) := by decide +kernel
theorem dX1_addCorner_43 : decode cX1_addCorner 43 = .ok (.iadd, 1) := by decide +kernel
theorem dX1_addCorner_44 : decode cX1_addCorner 44 = .ok (.putfield 35, 3) := by decide +kernel
theorem dX1_addCorner_47 : decode cX1_addCorner 47 = .ok (.ireturn, 1) := by decide +kernel
theorem dX1_addNode_0 : decode cX1_addNode 0 = .ok (.aload_n 0, 1) := by decide +kernel
theorem dX1_addNode_1 : decode cX1_addNode 1 = .ok (.getfield 25, 3) := by decide +kernel
theorem dX1_addNode_4 : decode cX1_addNode 4 = .ok (.aload_n 0, 1) := by decide +kernel
theorem dX1_addNode_5 : decode cX1_addNode 5 = .ok (.getfield 48, 3) := by decide +kernel
theorem dX1_addNode_8 : decode cX1_addNode 8 = .ok (.aaload, 1) := by decide +kernel
theorem dX1_addNode_9 : decode cX1_addNode 9 = .ok (.astore 5, 2) := by decide +kernel
theorem dX1_addNode_11 : decode cX1_addNode 11 = .ok (.aload 5, 2) := by decide +kernel
theorem dX1_addNode_13 : decode cX1_addNode 13 = .ok (.iload_n 1, 1) := by decide +kernel
theorem dX1_addNode_14 : decode cX1_addNode 14 = .ok (.putfield 75, 3) := by decide +kernel
theorem dX1_addNode_17 : decode cX1_addNode 17 = .ok (.aload 5, 2) := by decide +kernel
theorem dX1_addNode_19 : decode cX1_addNode 19 = .ok (.iload_n 2, 1) := by decide +kernel
theorem dX1_addNode_20 : decode cX1_addNode 20 = .ok (.putfield 78, 3) := by decide +kernel
theorem dX1_addNode_23 : decode cX1_addNode 23 = .ok (.aload 5, 2) := by decide +kernel
theorem dX1_addNode_25 : decode cX1_addNode 25 = .ok (.iload_n 3, 1) := by decide +kernel
theorem dX1_addNode_26 : decode cX1_addNode 26 = .ok (.putfield 81, 3) := by decide +kernel
theorem dX1_addNode_29 : decode cX1_addNode 29 = .ok (.aload 5, 2) := by decide +kernel
theorem dX1_addNode_31 : decode cX1_addNode 31 = .ok (.iload 4, 2) := by decide +kernel
theorem dX1_addNode_33 : decode cX1_addNode 33 = .ok (.putfield 84, 3) := by decide +kernel
theorem dX1_addNode_36 : decode cX1_addNode 36 = .ok (.aload_n 0, 1) := by decide +kernel
theorem dX1_addNode_37 : decode cX1_addNode 37 = .ok (.iload 4, 2) := by decide +kernel
theorem dX1_addNode_39 : decode cX1_addNode 39 = .ok (.invokevirtual 87, 3) := by decide +kernel
theorem dX1_addNode_42 : decode cX1_addNode 42 = .ok (.ifCond .eq 15, 3) := by decide +kernel
theorem dX1_addNode_45 : decode cX1_addNode 45 = .ok (.aload 5, 2) := by decide +kernel
theorem dX1_addNode_47 : decode cX1_addNode 47 = .ok (.aload_n 0, 1) := by decide +kernel
theorem dX1_addNode_48 : decode cX1_addNode 48 = .ok (.getfield 11, 3) := by decide +kernel
theorem dX1_addNode_51 : decode cX1_addNode 51 = .ok (.iload 4, 2) := by decide +kernel
theorem dX1_addNode_53 : decode cX1_addNode 53 = .ok (.aaload, 1) := by decide +kernel
theorem dX1_addNode_54 : decode cX1_addNode 54 = .ok (.putfield 91, 3) := by decide +kernel
theorem dX1_addNode_57 : decode cX1_addNode 57 = .ok (.aload_n 0, 1) := by decide +kernel
theorem dX1_addNode_58 : decode cX1_addNode 58 = .ok (.dup, 1) := by decide +kernel
theorem dX1_addNode_59 : decode cX1_addNode 59 = .ok (.getfield 48, 3) := by decide +kernel
theorem dX1_addNode_62 : decode cX1_addNode 62 = .ok (.dup_x1, 1) := by decide +kernel
theorem dX1_addNode_63 : decode cX1_addNode 63 = .ok (.iconst 1, 1) := by decide +kernel
theorem dX1_addNode_64 : decode cX1_addNode 64 = .ok (.iadd, 1) := by decide +kernel
theorem dX1_addNode_65 : decode cX1_addNode 65 = .ok (.putfield 48, 3) := by decide +kernel
theorem dX1_addNode_68 : decode cX1_addNode 68 = .ok (.ireturn, 1) := by decide +kernel
theorem dX1_addRule_0 : decode cX1_addRule 0 = .ok (.aload_n 0, 1) := by decide +kernel
theorem dX1_addRule_1 : decode cX1_addRule 1 = .ok (.getfield 31, 3) := by decide +kernel
theorem dX1_addRule_4 : decode cX1_addRule 4 = .ok (.aload_n 0, 1) := by decide +kernel
theorem dX1_addRule_5 : decode cX1_addRule 5 = .ok (.getfield 95, 3) := by decide +kernel
theorem dX1_addRule_8 : decode cX1_addRule 8 = .ok (.aaload, 1) := by decide +kernel
theorem dX1_addRule_9 : decode cX1_addRule 9 = .ok (.astore 4, 2) := by decide +kernel
theorem dX1_addRule_11 : decode cX1_addRule 11 = .ok (.aload 4, 2) := by decide +kernel
theorem dX1_addRule_13 : decode cX1_addRule 13 = .ok (.iload_n 1, 1) := by decide +kernel
theorem dX1_addRule_14 : decode cX1_addRule 14 = .ok (.putfield 98, 3) := by decide +kernel
theorem dX1_addRule_17 : decode cX1_addRule 17 = .ok (.aload 4, 2) := by decide +kernel
theorem dX1_addRule_19 : decode cX1_addRule 19 = .ok (.iload_n 2, 1) := by decide +kernel
theorem dX1_addRule_20 : decode cX1_addRule 20 = .ok (.putfield 101, 3) := by decide +kernel
theorem dX1_addRule_23 : decode cX1_addRule 23 = .ok (.aload 4, 2) := by decide +kernel
theorem dX1_addRule_25 : decode cX1_addRule 25 = .ok (.iload_n 3, 1) := by decide +kernel
theorem dX1_addRule_26 : decode cX1_addRule 26 = .ok (.putfield 104, 3) := by decide +kernel
theorem dX1_addRule_29 : decode cX1_addRule 29 = .ok (.aload_n 0, 1) := by decide +kernel
theorem dX1_addRule_30 : decode cX1_addRule 30 = .ok (.dup, 1) := by decide +kernel
theorem dX1_addRule_31 : decode cX1_addRule 31 = .ok (.getfield 95, 3) := by decide +kernel
theorem dX1_addRule_34 : decode cX1_addRule 34 = .ok (.dup_x1, 1) := by decide +kernel
theorem dX1_addRule_35 : decode cX1_addRule 35 = .ok (.iconst 1, 1) := by decide +kernel
theorem dX1_addRule_36 : decode cX1_addRule 36 = .ok (.iadd, 1) := by decide +kernel
theorem dX1_addRule_37 : decode cX1_addRule 37 = .ok (.putfield 95, 3) := by decide +kernel
theorem dX1_addRule_40 : decode cX1_addRule 40 = .ok (.ireturn, 1) := by decide +kernel
theorem dX1_timesFeed_0 : decode cX1_timesFeed 0 = .ok (.iconst 0, 1) := by decide +kernel
theorem dX1_timesFeed_1 : decode cX1_timesFeed 1 = .ok (.istore_n 2, 1) := by decide +kernel
theorem dX1_timesFeed_2 : decode cX1_timesFeed 2 = .ok (.iconst 0, 1) := by decide +kernel
theorem dX1_timesFeed_3 : decode cX1_timesFeed 3 = .ok (.istore_n 3, 1) := by decide +kernel
theorem dX1_timesFeed_4 : decode cX1_timesFeed 4 = .ok (.iload_n 3, 1) := by decide +kernel
theorem dX1_timesFeed_5 : decode cX1_timesFeed 5 = .ok (.aload_n 0, 1) := by decide +kernel
theorem dX1_timesFeed_6 : decode cX1_timesFeed 6 = .ok (.getfield 48, 3) := by decide +kernel
theorem dX1_timesFeed_9 : decode cX1_timesFeed 9 = .ok (.if_icmp .ge 49, 3) := by decide +kernel
theorem dX1_timesFeed_12 : decode cX1_timesFeed 12 = .ok (.iload_n 2, 1) := by decide +kernel
theorem dX1_timesFeed_13 : decode cX1_timesFeed 13 = .ok (.aload_n 0, 1) := by decide +kernel
theorem dX1_timesFeed_14 : decode cX1_timesFeed 14 = .ok (.getfield 25, 3) := by decide +kernel
theorem dX1_timesFeed_17 : decode cX1_timesFeed 17 = .ok (.iload_n 3, 1) := by decide +kernel
theorem dX1_timesFeed_18 : decode cX1_timesFeed 18 = .ok (.aaload, 1) := by decide +kernel
theorem dX1_timesFeed_19 : decode cX1_timesFeed 19 = .ok (.getfield 78, 3) := by decide +kernel
theorem dX1_timesFeed_22 : decode cX1_timesFeed 22 = .ok (.iload_n 1, 1) := by decide +kernel
theorem dX1_timesFeed_23 : decode cX1_timesFeed 23 = .ok (.if_icmp .ne 7, 3) := by decide +kernel
theorem dX1_timesFeed_26 : decode cX1_timesFeed 26 = .ok (.iconst 1, 1) := by decide +kernel
theorem dX1_timesFeed_27 : decode cX1_timesFeed 27 = .ok (.goto 4, 3) := by decide +kernel
theorem dX1_timesFeed_30 : decode cX1_timesFeed 30 = .ok (.iconst 0, 1) := by decide +kernel
theorem dX1_timesFeed_31 : decode cX1_timesFeed 31 = .ok (.aload_n 0, 1) := by decide +kernel
theorem dX1_timesFeed_32 : decode cX1_timesFeed 32 = .ok (.getfield 25, 3) := by decide +kernel
theorem dX1_timesFeed_35 : decode cX1_timesFeed 35 = .ok (.iload_n 3, 1) := by decide +kernel
theorem dX1_timesFeed_36 : decode cX1_timesFeed 36 = .ok (.aaload, 1) := by decide +kernel
theorem dX1_timesFeed_37 : decode cX1_timesFeed 37 = .ok (.getfield 81, 3) := by decide +kernel
theorem dX1_timesFeed_40 : decode cX1_timesFeed 40 = .ok (.iload_n 1, 1) := by decide +kernel
theorem dX1_timesFeed_41 : decode cX1_timesFeed 41 = .ok (.if_icmp .ne 7, 3) := by decide +kernel
theorem dX1_timesFeed_44 : decode cX1_timesFeed 44 = .ok (.iconst 1, 1) := by decide +kernel
theorem dX1_timesFeed_45 : decode cX1_timesFeed 45 = .ok (.goto 4, 3) := by decide +kernel
theorem dX1_timesFeed_48 : decode cX1_timesFeed 48 = .ok (.iconst 0, 1) := by decide +kernel
theorem dX1_timesFeed_49 : decode cX1_timesFeed 49 = .ok (.iadd, 1) := by decide +kernel
theorem dX1_timesFeed_50 : decode cX1_timesFeed 50 = .ok (.iadd, 1) := by decide +kernel
theorem dX1_timesFeed_51 : decode cX1_timesFeed 51 = .ok (.istore_n 2, 1) := by decide +kernel
theorem dX1_timesFeed_52 : decode cX1_timesFeed 52 = .ok (.iinc 3 1, 3) := by decide +kernel
theorem dX1_timesFeed_55 : decode cX1_timesFeed 55 = .ok (.goto (-51), 3) := by decide +kernel
theorem dX1_timesFeed_58 : decode cX1_timesFeed 58 = .ok (.iload_n 2, 1) := by decide +kernel
theorem dX1_timesFeed_59 : decode cX1_timesFeed 59 = .ok (.ireturn, 1) := by decide +kernel
theorem dX1_winnerOf_0 : decode cX1_winnerOf 0 = .ok (.iconst (-1), 1) := by decide +kernel
theorem dX1_winnerOf_1 : decode cX1_winnerOf 1 = .ok (.istore_n 3, 1) := by decide +kernel
theorem dX1_winnerOf_2 : decode cX1_winnerOf 2 = .ok (.iconst 0, 1) := by decide +kernel
theorem dX1_winnerOf_3 : decode cX1_winnerOf 3 = .ok (.istore 4, 2) := by decide +kernel
theorem dX1_winnerOf_5 : decode cX1_winnerOf 5 = .ok (.iconst 0, 1) := by decide +kernel
theorem dX1_winnerOf_6 : decode cX1_winnerOf 6 = .ok (.istore 5, 2) := by decide +kernel
theorem dX1_winnerOf_8 : decode cX1_winnerOf 8 = .ok (.iload 5, 2) := by decide +kernel
theorem dX1_winnerOf_10 : decode cX1_winnerOf 10 = .ok (.aload_n 0, 1) := by decide +kernel
theorem dX1_winnerOf_11 : decode cX1_winnerOf 11 = .ok (.getfield 95, 3) := by decide +kernel
theorem dX1_winnerOf_14 : decode cX1_winnerOf 14 = .ok (.if_icmp .ge 54, 3) := by decide +kernel
theorem dX1_winnerOf_17 : decode cX1_winnerOf 17 = .ok (.aload_n 0, 1) := by decide +kernel
theorem dX1_winnerOf_18 : decode cX1_winnerOf 18 = .ok (.getfield 31, 3) := by decide +kernel
theorem dX1_winnerOf_21 : decode cX1_winnerOf 21 = .ok (.iload 5, 2) := by decide +kernel
theorem dX1_winnerOf_23 : decode cX1_winnerOf 23 = .ok (.aaload, 1) := by decide +kernel
theorem dX1_winnerOf_24 : decode cX1_winnerOf 24 = .ok (.iload_n 1, 1) := by decide +kernel
theorem dX1_winnerOf_25 : decode cX1_winnerOf 25 = .ok (.iload_n 2, 1) := by decide +kernel
theorem dX1_winnerOf_26 : decode cX1_winnerOf 26 = .ok (.invokevirtual 107, 3) := by decide +kernel
theorem dX1_winnerOf_29 : decode cX1_winnerOf 29 = .ok (.ifCond .eq 33, 3) := by decide +kernel
theorem dX1_winnerOf_32 : decode cX1_winnerOf 32 = .ok (.aload_n 0, 1) := by decide +kernel
theorem dX1_winnerOf_33 : decode cX1_winnerOf 33 = .ok (.getfield 31, 3) := by decide +kernel
theorem dX1_winnerOf_36 : decode cX1_winnerOf 36 = .ok (.iload 5, 2) := by decide +kernel
theorem dX1_winnerOf_38 : decode cX1_winnerOf 38 = .ok (.aaload, 1) := by decide +kernel
theorem dX1_winnerOf_39 : decode cX1_winnerOf 39 = .ok (.invokevirtual 111, 3) := by decide +kernel
theorem dX1_winnerOf_42 : decode cX1_winnerOf 42 = .ok (.iload 4, 2) := by decide +kernel
theorem dX1_winnerOf_44 : decode cX1_winnerOf 44 = .ok (.if_icmp .lt 18, 3) := by decide +kernel
theorem dX1_winnerOf_47 : decode cX1_winnerOf 47 = .ok (.iload 5, 2) := by decide +kernel
theorem dX1_winnerOf_49 : decode cX1_winnerOf 49 = .ok (.istore_n 3, 1) := by decide +kernel
theorem dX1_winnerOf_50 : decode cX1_winnerOf 50 = .ok (.aload_n 0, 1) := by decide +kernel
theorem dX1_winnerOf_51 : decode cX1_winnerOf 51 = .ok (.getfield 31, 3) := by decide +kernel
theorem dX1_winnerOf_54 : decode cX1_winnerOf 54 = .ok (.iload 5, 2) := by decide +kernel
theorem dX1_winnerOf_56 : decode cX1_winnerOf 56 = .ok (.aaload, 1) := by decide +kernel
theorem dX1_winnerOf_57 : decode cX1_winnerOf 57 = .ok (.invokevirtual 111, 3) := by decide +kernel
theorem dX1_winnerOf_60 : decode cX1_winnerOf 60 = .ok (.istore 4, 2) := by decide +kernel
theorem dX1_winnerOf_62 : decode cX1_winnerOf 62 = .ok (.iinc 5 1, 3) := by decide +kernel
theorem dX1_winnerOf_65 : decode cX1_winnerOf 65 = .ok (.goto (-57), 3) := by decide +kernel
theorem dX1_winnerOf_68 : decode cX1_winnerOf 68 = .ok (.iload_n 3, 1) := by decide +kernel
theorem dX1_winnerOf_69 : decode cX1_winnerOf 69 = .ok (.ireturn, 1) := by decide +kernel
theorem dX1_isOneGroup_0 : decode cX1_isOneGroup 0 = .ok (.aload_n 0, 1) := by decide +kernel
theorem dX1_isOneGroup_1 : decode cX1_isOneGroup 1 = .ok (.getfield 25, 3) := by decide +kernel
theorem dX1_isOneGroup_4 : decode cX1_isOneGroup 4 = .ok (.iload_n 1, 1) := by decide +kernel
theorem dX1_isOneGroup_5 : decode cX1_isOneGroup 5 = .ok (.aaload, 1) := by decide +kernel
theorem dX1_isOneGroup_6 : decode cX1_isOneGroup 6 = .ok (.getfield 91, 3) := by decide +kernel
theorem dX1_isOneGroup_9 : decode cX1_isOneGroup 9 = .ok (.getfield 60, 3) := by decide +kernel
theorem dX1_isOneGroup_12 : decode cX1_isOneGroup 12 = .ok (.aload_n 0, 1) := by decide +kernel
theorem dX1_isOneGroup_13 : decode cX1_isOneGroup 13 = .ok (.getfield 25, 3) := by decide +kernel
theorem dX1_isOneGroup_16 : decode cX1_isOneGroup 16 = .ok (.iload_n 2, 1) := by decide +kernel
theorem dX1_isOneGroup_17 : decode cX1_isOneGroup 17 = .ok (.aaload, 1) := by decide +kernel
theorem dX1_isOneGroup_18 : decode cX1_isOneGroup 18 = .ok (.getfield 91, 3) := by decide +kernel
theorem dX1_isOneGroup_21 : decode cX1_isOneGroup 21 = .ok (.getfield 60, 3) := by decide +kernel
theorem dX1_isOneGroup_24 : decode cX1_isOneGroup 24 = .ok (.if_icmp .ne 7, 3) := by decide +kernel
theorem dX1_isOneGroup_27 : decode cX1_isOneGroup 27 = .ok (.iconst 1, 1) := by decide +kernel
theorem dX1_isOneGroup_28 : decode cX1_isOneGroup 28 = .ok (.goto 4, 3) := by decide +kernel
theorem dX1_isOneGroup_31 : decode cX1_isOneGroup 31 = .ok (.iconst 0, 1) := by decide +kernel
theorem dX1_isOneGroup_32 : decode cX1_isOneGroup 32 = .ok (.ireturn, 1) := by decide +kernel
theorem dX1_gapOf_0 : decode cX1_gapOf 0 = .ok (.aload_n 0, 1) := by decide +kernel
theorem dX1_gapOf_1 : decode cX1_gapOf 1 = .ok (.getfield 25, 3) := by decide +kernel
theorem dX1_gapOf_4 : decode cX1_gapOf 4 = .ok (.iload_n 2, 1) := by decide +kernel
theorem dX1_gapOf_5 : decode cX1_gapOf 5 = .ok (.aaload, 1) := by decide +kernel
theorem dX1_gapOf_6 : decode cX1_gapOf 6 = .ok (.getfield 91, 3) := by decide +kernel
theorem dX1_gapOf_9 : decode cX1_gapOf 9 = .ok (.getfield 51, 3) := by decide +kernel
theorem dX1_gapOf_12 : decode cX1_gapOf 12 = .ok (.istore 4, 2) := by decide +kernel
theorem dX1_gapOf_14 : decode cX1_gapOf 14 = .ok (.aload_n 0, 1) := by decide +kernel
theorem dX1_gapOf_15 : decode cX1_gapOf 15 = .ok (.getfield 25, 3) := by decide +kernel
theorem dX1_gapOf_18 : decode cX1_gapOf 18 = .ok (.iload_n 1, 1) := by decide +kernel
theorem dX1_gapOf_19 : decode cX1_gapOf 19 = .ok (.aaload, 1) := by decide +kernel
theorem dX1_gapOf_20 : decode cX1_gapOf 20 = .ok (.getfield 91, 3) := by decide +kernel
theorem dX1_gapOf_23 : decode cX1_gapOf 23 = .ok (.getfield 51, 3) := by decide +kernel
theorem dX1_gapOf_26 : decode cX1_gapOf 26 = .ok (.iload 4, 2) := by decide +kernel
theorem dX1_gapOf_28 : decode cX1_gapOf 28 = .ok (.invokestatic 115, 3) := by decide +kernel
theorem dX1_gapOf_31 : decode cX1_gapOf 31 = .ok (.iload_n 3, 1) := by decide +kernel
theorem dX1_gapOf_32 : decode cX1_gapOf 32 = .ok (.iconst 1, 1) := by decide +kernel
theorem dX1_gapOf_33 : decode cX1_gapOf 33 = .ok (.isub, 1) := by decide +kernel
theorem dX1_gapOf_34 : decode cX1_gapOf 34 = .ok (.iload 4, 2) := by decide +kernel
theorem dX1_gapOf_36 : decode cX1_gapOf 36 = .ok (.imul, 1) := by decide +kernel
theorem dX1_gapOf_37 : decode cX1_gapOf 37 = .ok (.iadd, 1) := by decide +kernel
theorem dX1_gapOf_38 : decode cX1_gapOf 38 = .ok (.ireturn, 1) := by decide +kernel
theorem dX1_greatestDivisor_0 : decode cX1_greatestDivisor 0 = .ok (.iload_n 0, 1) := by decide +kernel
theorem dX1_greatestDivisor_1 : decode cX1_greatestDivisor 1 = .ok (.istore_n 2, 1) := by decide +kernel
theorem dX1_greatestDivisor_2 : decode cX1_greatestDivisor 2 = .ok (.iload_n 1, 1) := by decide +kernel
theorem dX1_greatestDivisor_3 : decode cX1_greatestDivisor 3 = .ok (.istore_n 3, 1) := by decide +kernel
theorem dX1_greatestDivisor_4 : decode cX1_greatestDivisor 4 = .ok (.iconst 0, 1) := by decide +kernel
theorem dX1_greatestDivisor_5 : decode cX1_greatestDivisor 5 = .ok (.istore 4, 2) := by decide +kernel
theorem dX1_greatestDivisor_7 : decode cX1_greatestDivisor 7 = .ok (.iload 4, 2) := by decide +kernel
theorem dX1_greatestDivisor_9 : decode cX1_greatestDivisor 9 = .ok (.bipush 64, 2) := by decide +kernel
theorem dX1_greatestDivisor_11 : decode cX1_greatestDivisor 11 = .ok (.if_icmp .ge 23, 3) := by decide +kernel
theorem dX1_greatestDivisor_14 : decode cX1_greatestDivisor 14 = .ok (.iload_n 3, 1) := by decide +kernel
theorem dX1_greatestDivisor_15 : decode cX1_greatestDivisor 15 = .ok (.ifCond .eq 19, 3) := by decide +kernel
theorem dX1_greatestDivisor_18 : decode cX1_greatestDivisor 18 = .ok (.iload_n 2, 1) := by decide +kernel
theorem dX1_greatestDivisor_19 : decode cX1_greatestDivisor 19 = .ok (.iload_n 3, 1) := by decide +kernel
theorem dX1_greatestDivisor_20 : decode cX1_greatestDivisor 20 = .ok (.irem, 1) := by decide +kernel
theorem dX1_greatestDivisor_21 : decode cX1_greatestDivisor 21 = .ok (.istore 5, 2) := by decide +kernel
theorem dX1_greatestDivisor_23 : decode cX1_greatestDivisor 23 = .ok (.iload_n 3, 1) := by decide +kernel
theorem dX1_greatestDivisor_24 : decode cX1_greatestDivisor 24 = .ok (.istore_n 2, 1) := by decide +kernel
theorem dX1_greatestDivisor_25 : decode cX1_greatestDivisor 25 = .ok (.iload 5, 2) := by decide +kernel
theorem dX1_greatestDivisor_27 : decode cX1_greatestDivisor 27 = .ok (.istore_n 3, 1) := by decide +kernel
theorem dX1_greatestDivisor_28 : decode cX1_greatestDivisor 28 = .ok (.iinc 4 1, 3) := by decide +kernel
theorem dX1_greatestDivisor_31 : decode cX1_greatestDivisor 31 = .ok (.goto (-24), 3) := by decide +kernel
theorem dX1_greatestDivisor_34 : decode cX1_greatestDivisor 34 = .ok (.iload_n 2, 1) := by decide +kernel
theorem dX1_greatestDivisor_35 : decode cX1_greatestDivisor 35 = .ok (.ireturn, 1) := by decide +kernel
theorem dX2_init_0 : decode cX2_init 0 = .ok (.aload_n 0, 1) := by decide +kernel
theorem dX2_init_1 : decode cX2_init 1 = .ok (.invokespecial 1, 3) := by decide +kernel
theorem dX2_init_4 : decode cX2_init 4 = .ok (.return_, 1) := by decide +kernel
theorem dX2_tell_0 : decode cX2_tell 0 = .ok (.iload_n 1, 1) := by decide +kernel
theorem dX2_tell_1 : decode cX2_tell 1 = .ok (.tableswitch 51 0 3 #[31, 36, 41, 46], 31) := by decide +kernel
theorem dX2_tell_32 : decode cX2_tell 32 = .ok (.aload_n 0, 1) := by decide +kernel
theorem dX2_tell_33 : decode cX2_tell 33 = .ok (.getfield 7, 3) := by decide +kernel
theorem dX2_tell_36 : decode cX2_tell 36 = .ok (.ireturn, 1) := by decide +kernel
theorem dX2_tell_37 : decode cX2_tell 37 = .ok (.aload_n 0, 1) := by decide +kernel
theorem dX2_tell_38 : decode cX2_tell 38 = .ok (.getfield 13, 3) := by decide +kernel
theorem dX2_tell_41 : decode cX2_tell 41 = .ok (.ireturn, 1) := by decide +kernel
theorem dX2_tell_42 : decode cX2_tell 42 = .ok (.aload_n 0, 1) := by decide +kernel
theorem dX2_tell_43 : decode cX2_tell 43 = .ok (.getfield 16, 3) := by decide +kernel
theorem dX2_tell_46 : decode cX2_tell 46 = .ok (.ireturn, 1) := by decide +kernel
theorem dX2_tell_47 : decode cX2_tell 47 = .ok (.aload_n 0, 1) := by decide +kernel
theorem dX2_tell_48 : decode cX2_tell 48 = .ok (.getfield 19, 3) := by decide +kernel
theorem dX2_tell_51 : decode cX2_tell 51 = .ok (.ireturn, 1) := by decide +kernel
theorem dX2_tell_52 : decode cX2_tell 52 = .ok (.aload_n 0, 1) := by decide +kernel
theorem dX2_tell_53 : decode cX2_tell 53 = .ok (.getfield 22, 3) := by decide +kernel
theorem dX2_tell_56 : decode cX2_tell 56 = .ok (.ireturn, 1) := by decide +kernel
theorem dX3_init_0 : decode cX3_init 0 = .ok (.aload_n 0, 1) := by decide +kernel
theorem dX3_init_1 : decode cX3_init 1 = .ok (.invokespecial 1, 3) := by decide +kernel
theorem dX3_init_4 : decode cX3_init 4 = .ok (.aload_n 0, 1) := by decide +kernel
theorem dX3_init_5 : decode cX3_init 5 = .ok (.dconst 1, 1) := by decide +kernel
theorem dX3_init_6 : decode cX3_init 6 = .ok (.putfield 7, 3) := by decide +kernel
theorem dX3_init_9 : decode cX3_init 9 = .ok (.aload_n 0, 1) := by decide +kernel
theorem dX3_init_10 : decode cX3_init 10 = .ok (.dconst 1, 1) := by decide +kernel
theorem dX3_init_11 : decode cX3_init 11 = .ok (.putfield 13, 3) := by decide +kernel
theorem dX3_init_14 : decode cX3_init 14 = .ok (.return_, 1) := by decide +kernel
theorem dX4_init_0 : decode cX4_init 0 = .ok (.aload_n 0, 1) := by decide +kernel
theorem dX4_init_1 : decode cX4_init 1 = .ok (.invokespecial 3, 3) := by decide +kernel
theorem dX4_init_4 : decode cX4_init 4 = .ok (.aload_n 0, 1) := by decide +kernel
theorem dX4_init_5 : decode cX4_init 5 = .ok (.bipush 16, 2) := by decide +kernel
theorem dX4_init_7 : decode cX4_init 7 = .ok (.newarray .float, 2) := by decide +kernel
theorem dX4_init_9 : decode cX4_init 9 = .ok (.putfield 9, 3) := by decide +kernel
theorem dX4_init_12 : decode cX4_init 12 = .ok (.aload_n 0, 1) := by decide +kernel
theorem dX4_init_13 : decode cX4_init 13 = .ok (.bipush 16, 2) := by decide +kernel
theorem dX4_init_15 : decode cX4_init 15 = .ok (.newarray .double, 2) := by decide +kernel
theorem dX4_init_17 : decode cX4_init 17 = .ok (.putfield 15, 3) := by decide +kernel
theorem dX4_init_20 : decode cX4_init 20 = .ok (.aload_n 0, 1) := by decide +kernel
theorem dX4_init_21 : decode cX4_init 21 = .ok (.aload_n 1, 1) := by decide +kernel
theorem dX4_init_22 : decode cX4_init 22 = .ok (.putfield 19, 3) := by decide +kernel
theorem dX4_init_25 : decode cX4_init 25 = .ok (.return_, 1) := by decide +kernel
theorem dX4_prepare_0 : decode cX4_prepare 0 = .ok (.aload_n 0, 1) := by decide +kernel
theorem dX4_prepare_1 : decode cX4_prepare 1 = .ok (.getfield 23, 3) := by decide +kernel
theorem dX4_prepare_4 : decode cX4_prepare 4 = .ok (.ifCond .ne 12, 3) := by decide +kernel
theorem dX4_prepare_7 : decode cX4_prepare 7 = .ok (.aload_n 0, 1) := by decide +kernel
theorem dX4_prepare_8 : decode cX4_prepare 8 = .ok (.invokevirtual 27, 3) := by decide +kernel
theorem dX4_prepare_11 : decode cX4_prepare 11 = .ok (.aload_n 0, 1) := by decide +kernel
theorem dX4_prepare_12 : decode cX4_prepare 12 = .ok (.iconst 1, 1) := by decide +kernel
theorem dX4_prepare_13 : decode cX4_prepare 13 = .ok (.putfield 23, 3) := by decide +kernel
theorem dX4_prepare_16 : decode cX4_prepare 16 = .ok (.return_, 1) := by decide +kernel
theorem dX4_reckon_0 : decode cX4_reckon 0 = .ok (.iconst 0, 1) := by decide +kernel
theorem dX4_reckon_1 : decode cX4_reckon 1 = .ok (.istore_n 1, 1) := by decide +kernel
theorem dX4_reckon_2 : decode cX4_reckon 2 = .ok (.iload_n 1, 1) := by decide +kernel
theorem dX4_reckon_3 : decode cX4_reckon 3 = .ok (.aload_n 0, 1) := by decide +kernel
theorem dX4_reckon_4 : decode cX4_reckon 4 = .ok (.getfield 19, 3) := by decide +kernel
theorem dX4_reckon_7 : decode cX4_reckon 7 = .ok (.getfield 30, 3) := by decide +kernel
theorem dX4_reckon_10 : decode cX4_reckon 10 = .ok (.if_icmp .ge 27, 3) := by decide +kernel
theorem dX4_reckon_13 : decode cX4_reckon 13 = .ok (.aload_n 0, 1) := by decide +kernel
theorem dX4_reckon_14 : decode cX4_reckon 14 = .ok (.getfield 9, 3) := by decide +kernel
theorem dX4_reckon_17 : decode cX4_reckon 17 = .ok (.iload_n 1, 1) := by decide +kernel
theorem dX4_reckon_18 : decode cX4_reckon 18 = .ok (.aload_n 0, 1) := by decide +kernel
theorem dX4_reckon_19 : decode cX4_reckon 19 = .ok (.getfield 19, 3) := by decide +kernel
theorem dX4_reckon_22 : decode cX4_reckon 22 = .ok (.getfield 36, 3) := by decide +kernel
theorem dX4_reckon_25 : decode cX4_reckon 25 = .ok (.iload_n 1, 1) := by decide +kernel
theorem dX4_reckon_26 : decode cX4_reckon 26 = .ok (.aaload, 1) := by decide +kernel
theorem dX4_reckon_27 : decode cX4_reckon 27 = .ok (.getfield 40, 3) := by decide +kernel
theorem dX4_reckon_30 : decode cX4_reckon 30 = .ok (.fastore, 1) := by decide +kernel
theorem dX4_reckon_31 : decode cX4_reckon 31 = .ok (.iinc 1 1, 3) := by decide +kernel
theorem dX4_reckon_34 : decode cX4_reckon 34 = .ok (.goto (-32), 3) := by decide +kernel
theorem dX4_reckon_37 : decode cX4_reckon 37 = .ok (.iconst 0, 1) := by decide +kernel
theorem dX4_reckon_38 : decode cX4_reckon 38 = .ok (.istore_n 1, 1) := by decide +kernel
theorem dX4_reckon_39 : decode cX4_reckon 39 = .ok (.iload_n 1, 1) := by decide +kernel
theorem dX4_reckon_40 : decode cX4_reckon 40 = .ok (.aload_n 0, 1) := by decide +kernel
theorem dX4_reckon_41 : decode cX4_reckon 41 = .ok (.getfield 19, 3) := by decide +kernel
theorem dX4_reckon_44 : decode cX4_reckon 44 = .ok (.getfield 30, 3) := by decide +kernel
theorem dX4_reckon_47 : decode cX4_reckon 47 = .ok (.if_icmp .ge 59, 3) := by decide +kernel
theorem dX4_reckon_50 : decode cX4_reckon 50 = .ok (.aload_n 0, 1) := by decide +kernel
theorem dX4_reckon_51 : decode cX4_reckon 51 = .ok (.getfield 19, 3) := by decide +kernel
theorem dX4_reckon_54 : decode cX4_reckon 54 = .ok (.getfield 36, 3) := by decide +kernel
theorem dX4_reckon_57 : decode cX4_reckon 57 = .ok (.iload_n 1, 1) := by decide +kernel
theorem dX4_reckon_58 : decode cX4_reckon 58 = .ok (.aaload, 1) := by decide +kernel
theorem dX4_reckon_59 : decode cX4_reckon 59 = .ok (.astore_n 2, 1) := by decide +kernel
theorem dX4_reckon_60 : decode cX4_reckon 60 = .ok (.aload_n 2, 1) := by decide +kernel
theorem dX4_reckon_61 : decode cX4_reckon 61 = .ok (.getfield 46, 3) := by decide +kernel
theorem dX4_reckon_64 : decode cX4_reckon 64 = .ok (.bipush 8, 2) := by decide +kernel
theorem dX4_reckon_66 : decode cX4_reckon 66 = .ok (.if_icmp .ne 7, 3) := by decide +kernel
theorem dX4_reckon_69 : decode cX4_reckon 69 = .ok (.fconst 2, 1) := by decide +kernel
theorem dX4_reckon_70 : decode cX4_reckon 70 = .ok (.goto 11, 3) := by decide +kernel
theorem dX4_reckon_73 : decode cX4_reckon 73 = .ok (.ldc 49, 2) := by decide +kernel
theorem dX4_reckon_75 : decode cX4_reckon 75 = .ok (.aload_n 2, 1) := by decide +kernel
theorem dX4_reckon_76 : decode cX4_reckon 76 = .ok (.getfield 50, 3) := by decide +kernel
theorem dX4_reckon_79 : decode cX4_reckon 79 = .ok (.i2f, 1) := by decide +kernel
theorem dX4_reckon_80 : decode cX4_reckon 80 = .ok (.fmul, 1) := by decide +kernel
theorem dX4_reckon_81 : decode cX4_reckon 81 = .ok (.fstore_n 3, 1) := by decide +kernel
theorem dX4_reckon_82 : decode cX4_reckon 82 = .ok (.aload_n 0, 1) := by decide +kernel
theorem dX4_reckon_83 : decode cX4_reckon 83 = .ok (.aload_n 2, 1) := by decide +kernel
theorem dX4_reckon_84 : decode cX4_reckon 84 = .ok (.getfield 53, 3) := by decide +kernel
theorem dX4_reckon_87 : decode cX4_reckon 87 = .ok (.fload_n 3, 1) := by decide +kernel
theorem dX4_reckon_88 : decode cX4_reckon 88 = .ok (.invokevirtual 56, 3) := by decide +kernel
theorem dX4_reckon_91 : decode cX4_reckon 91 = .ok (.aload_n 0, 1) := by decide +kernel
theorem dX4_reckon_92 : decode cX4_reckon 92 = .ok (.aload_n 2, 1) := by decide +kernel
theorem dX4_reckon_93 : decode cX4_reckon 93 = .ok (.getfield 60, 3) := by decide +kernel
theorem dX4_reckon_96 : decode cX4_reckon 96 = .ok (.fload_n 3, 1) := by decide +kernel
theorem dX4_reckon_97 : decode cX4_reckon 97 = .ok (.invokevirtual 56, 3) := by decide +kernel
theorem dX4_reckon_100 : decode cX4_reckon 100 = .ok (.iinc 1 1, 3) := by decide +kernel
theorem dX4_reckon_103 : decode cX4_reckon 103 = .ok (.goto (-64), 3) := by decide +kernel
theorem dX4_reckon_106 : decode cX4_reckon 106 = .ok (.iconst 0, 1) := by decide +kernel
theorem dX4_reckon_107 : decode cX4_reckon 107 = .ok (.istore_n 1, 1) := by decide +kernel
theorem dX4_reckon_108 : decode cX4_reckon 108 = .ok (.iload_n 1, 1) := by decide +kernel
theorem dX4_reckon_109 : decode cX4_reckon 109 = .ok (.aload_n 0, 1) := by decide +kernel
theorem dX4_reckon_110 : decode cX4_reckon 110 = .ok (.getfield 19, 3) := by decide +kernel
theorem dX4_reckon_113 : decode cX4_reckon 113 = .ok (.getfield 30, 3) := by decide +kernel
theorem dX4_reckon_116 : decode cX4_reckon 116 = .ok (.if_icmp .ge 34, 3) := by decide +kernel
theorem dX4_reckon_119 : decode cX4_reckon 119 = .ok (.aload_n 0, 1) := by decide +kernel
theorem dX4_reckon_120 : decode cX4_reckon 120 = .ok (.getfield 15, 3) := by decide +kernel
theorem dX4_reckon_123 : decode cX4_reckon 123 = .ok (.iload_n 1, 1) := by decide +kernel
theorem dX4_reckon_124 : decode cX4_reckon 124 = .ok (.aload_n 0, 1) := by decide +kernel
theorem dX4_reckon_125 : decode cX4_reckon 125 = .ok (.getfield 19, 3) := by decide +kernel
theorem dX4_reckon_128 : decode cX4_reckon 128 = .ok (.getfield 36, 3) := by decide +kernel
theorem dX4_reckon_131 : decode cX4_reckon 131 = .ok (.iload_n 1, 1) := by decide +kernel
theorem dX4_reckon_132 : decode cX4_reckon 132 = .ok (.aaload, 1) := by decide +kernel
theorem dX4_reckon_133 : decode cX4_reckon 133 = .ok (.aload_n 0, 1) := by decide +kernel
theorem dX4_reckon_134 : decode cX4_reckon 134 = .ok (.getfield 9, 3) := by decide +kernel
theorem dX4_reckon_137 : decode cX4_reckon 137 = .ok (.iload_n 1, 1) := by decide +kernel
theorem dX4_reckon_138 : decode cX4_reckon 138 = .ok (.faload, 1) := by decide +kernel
theorem dX4_reckon_139 : decode cX4_reckon 139 = .ok (.f2d, 1) := by decide +kernel
theorem dX4_reckon_140 : decode cX4_reckon 140 = .ok (.invokestatic 63, 3) := by decide +kernel
theorem dX4_reckon_143 : decode cX4_reckon 143 = .ok (.dastore, 1) := by decide +kernel
theorem dX4_reckon_144 : decode cX4_reckon 144 = .ok (.iinc 1 1, 3) := by decide +kernel
theorem dX4_reckon_147 : decode cX4_reckon 147 = .ok (.goto (-39), 3) := by decide +kernel
theorem dX4_reckon_150 : decode cX4_reckon 150 = .ok (.return_, 1) := by decide +kernel
theorem dX4_burden_0 : decode cX4_burden 0 = .ok (.aload_n 0, 1) := by decide +kernel
theorem dX4_burden_1 : decode cX4_burden 1 = .ok (.getfield 19, 3) := by decide +kernel
theorem dX4_burden_4 : decode cX4_burden 4 = .ok (.iload_n 1, 1) := by decide +kernel
theorem dX4_burden_5 : decode cX4_burden 5 = .ok (.invokevirtual 67, 3) := by decide +kernel
theorem dX4_burden_8 : decode cX4_burden 8 = .ok (.ifCond .eq 13, 3) := by decide +kernel
theorem dX4_burden_11 : decode cX4_burden 11 = .ok (.aload_n 0, 1) := by decide +kernel
theorem dX4_burden_12 : decode cX4_burden 12 = .ok (.getfield 9, 3) := by decide +kernel
theorem dX4_burden_15 : decode cX4_burden 15 = .ok (.iload_n 1, 1) := by decide +kernel
theorem dX4_burden_16 : decode cX4_burden 16 = .ok (.dup2, 1) := by decide +kernel
theorem dX4_burden_17 : decode cX4_burden 17 = .ok (.faload, 1) := by decide +kernel
theorem dX4_burden_18 : decode cX4_burden 18 = .ok (.fload_n 2, 1) := by decide +kernel
theorem dX4_burden_19 : decode cX4_burden 19 = .ok (.fadd, 1) := by decide +kernel
theorem dX4_burden_20 : decode cX4_burden 20 = .ok (.fastore, 1) := by decide +kernel
theorem dX4_burden_21 : decode cX4_burden 21 = .ok (.return_, 1) := by decide +kernel
theorem dX4_riseOf_0 : decode cX4_riseOf 0 = .ok (.aload_n 0, 1) := by decide +kernel
theorem dX4_riseOf_1 : decode cX4_riseOf 1 = .ok (.getfield 46, 3) := by decide +kernel
theorem dX4_riseOf_4 : decode cX4_riseOf 4 = .ok (.ifCond .eq 22, 3) := by decide +kernel
theorem dX4_riseOf_7 : decode cX4_riseOf 7 = .ok (.aload_n 0, 1) := by decide +kernel
theorem dX4_riseOf_8 : decode cX4_riseOf 8 = .ok (.getfield 46, 3) := by decide +kernel
theorem dX4_riseOf_11 : decode cX4_riseOf 11 = .ok (.bipush 8, 2) := by decide +kernel
theorem dX4_riseOf_13 : decode cX4_riseOf 13 = .ok (.if_icmp .eq 13, 3) := by decide +kernel
theorem dX4_riseOf_16 : decode cX4_riseOf 16 = .ok (.aload_n 0, 1) := by decide +kernel
theorem dX4_riseOf_17 : decode cX4_riseOf 17 = .ok (.getfield 50, 3) := by decide +kernel
theorem dX4_riseOf_20 : decode cX4_riseOf 20 = .ok (.invokestatic 71, 3) := by decide +kernel
theorem dX4_riseOf_23 : decode cX4_riseOf 23 = .ok (.ifCond .ne 5, 3) := by decide +kernel
theorem dX4_riseOf_26 : decode cX4_riseOf 26 = .ok (.dconst 0, 1) := by decide +kernel
theorem dX4_riseOf_27 : decode cX4_riseOf 27 = .ok (.dreturn, 1) := by decide +kernel
theorem dX4_riseOf_28 : decode cX4_riseOf 28 = .ok (.dload_n 1, 1) := by decide +kernel
theorem dX4_riseOf_29 : decode cX4_riseOf 29 = .ok (.invokestatic 74, 3) := by decide +kernel
theorem dX4_riseOf_32 : decode cX4_riseOf 32 = .ok (.aload_n 0, 1) := by decide +kernel
theorem dX4_riseOf_33 : decode cX4_riseOf 33 = .ok (.getfield 50, 3) := by decide +kernel
theorem dX4_riseOf_36 : decode cX4_riseOf 36 = .ok (.i2d, 1) := by decide +kernel
theorem dX4_riseOf_37 : decode cX4_riseOf 37 = .ok (.ddiv, 1) := by decide +kernel
theorem dX4_riseOf_38 : decode cX4_riseOf 38 = .ok (.dstore_n 3, 1) := by decide +kernel
theorem dX4_riseOf_39 : decode cX4_riseOf 39 = .ok (.aload_n 0, 1) := by decide +kernel
theorem dX4_riseOf_40 : decode cX4_riseOf 40 = .ok (.invokevirtual 78, 3) := by decide +kernel
theorem dX4_riseOf_43 : decode cX4_riseOf 43 = .ok (.ifCond .eq 7, 3) := by decide +kernel
theorem dX4_riseOf_46 : decode cX4_riseOf 46 = .ok (.dload_n 3, 1) := by decide +kernel
theorem dX4_riseOf_47 : decode cX4_riseOf 47 = .ok (.goto 8, 3) := by decide +kernel
theorem dX4_riseOf_50 : decode cX4_riseOf 50 = .ok (.dload_n 3, 1) := by decide +kernel
theorem dX4_riseOf_51 : decode cX4_riseOf 51 = .ok (.ldc2_w 82, 3) := by decide +kernel
theorem dX4_riseOf_54 : decode cX4_riseOf 54 = .ok (.dadd, 1) := by decide +kernel
theorem dX4_riseOf_55 : decode cX4_riseOf 55 = .ok (.dreturn, 1) := by decide +kernel
theorem dX4_unsized_0 : decode cX4_unsized 0 = .ok (.dload_n 0, 1) := by decide +kernel
theorem dX4_unsized_1 : decode cX4_unsized 1 = .ok (.ldc2_w 84, 3) := by decide +kernel
theorem dX4_unsized_4 : decode cX4_unsized 4 = .ok (.dcmp .g, 1) := by decide +kernel
theorem dX4_unsized_5 : decode cX4_unsized 5 = .ok (.ifCond .gt 11, 3) := by decide +kernel
theorem dX4_unsized_8 : decode cX4_unsized 8 = .ok (.dconst 1, 1) := by decide +kernel
theorem dX4_unsized_9 : decode cX4_unsized 9 = .ok (.dload_n 0, 1) := by decide +kernel
theorem dX4_unsized_10 : decode cX4_unsized 10 = .ok (.ldc2_w 86, 3) := by decide +kernel
theorem dX4_unsized_13 : decode cX4_unsized 13 = .ok (.dmul, 1) := by decide +kernel
theorem dX4_unsized_14 : decode cX4_unsized 14 = .ok (.dadd, 1) := by decide +kernel
theorem dX4_unsized_15 : decode cX4_unsized 15 = .ok (.dreturn, 1) := by decide +kernel
theorem dX4_unsized_16 : decode cX4_unsized 16 = .ok (.dload_n 0, 1) := by decide +kernel
theorem dX4_unsized_17 : decode cX4_unsized 17 = .ok (.ldc2_w 88, 3) := by decide +kernel
theorem dX4_unsized_20 : decode cX4_unsized 20 = .ok (.dcmp .g, 1) := by decide +kernel
theorem dX4_unsized_21 : decode cX4_unsized 21 = .ok (.ifCond .gt 17, 3) := by decide +kernel
theorem dX4_unsized_24 : decode cX4_unsized 24 = .ok (.ldc2_w 82, 3) := by decide +kernel
theorem dX4_unsized_27 : decode cX4_unsized 27 = .ok (.dload_n 0, 1) := by decide +kernel
theorem dX4_unsized_28 : decode cX4_unsized 28 = .ok (.ldc2_w 84, 3) := by decide +kernel
theorem dX4_unsized_31 : decode cX4_unsized 31 = .ok (.dsub, 1) := by decide +kernel
theorem dX4_unsized_32 : decode cX4_unsized 32 = .ok (.ldc2_w 90, 3) := by decide +kernel
theorem dX4_unsized_35 : decode cX4_unsized 35 = .ok (.dmul, 1) := by decide +kernel
theorem dX4_unsized_36 : decode cX4_unsized 36 = .ok (.dadd, 1) := by decide +kernel
theorem dX4_unsized_37 : decode cX4_unsized 37 = .ok (.dreturn, 1) := by decide +kernel
theorem dX4_unsized_38 : decode cX4_unsized 38 = .ok (.dload_n 0, 1) := by decide +kernel
theorem dX4_unsized_39 : decode cX4_unsized 39 = .ok (.ldc2_w 92, 3) := by decide +kernel
theorem dX4_unsized_42 : decode cX4_unsized 42 = .ok (.dcmp .g, 1) := by decide +kernel
theorem dX4_unsized_43 : decode cX4_unsized 43 = .ok (.ifCond .gt 17, 3) := by decide +kernel
theorem dX4_unsized_46 : decode cX4_unsized 46 = .ok (.ldc2_w 94, 3) := by decide +kernel
theorem dX4_unsized_49 : decode cX4_unsized 49 = .ok (.dload_n 0, 1) := by decide +kernel
theorem dX4_unsized_50 : decode cX4_unsized 50 = .ok (.ldc2_w 88, 3) := by decide +kernel
theorem dX4_unsized_53 : decode cX4_unsized 53 = .ok (.dsub, 1) := by decide +kernel
theorem dX4_unsized_54 : decode cX4_unsized 54 = .ok (.ldc2_w 90, 3) := by decide +kernel
theorem dX4_unsized_57 : decode cX4_unsized 57 = .ok (.dmul, 1) := by decide +kernel
theorem dX4_unsized_58 : decode cX4_unsized 58 = .ok (.dadd, 1) := by decide +kernel
theorem dX4_unsized_59 : decode cX4_unsized 59 = .ok (.dreturn, 1) := by decide +kernel
theorem dX4_unsized_60 : decode cX4_unsized 60 = .ok (.ldc2_w 96, 3) := by decide +kernel
theorem dX4_unsized_63 : decode cX4_unsized 63 = .ok (.dload_n 0, 1) := by decide +kernel
theorem dX4_unsized_64 : decode cX4_unsized 64 = .ok (.ldc2_w 92, 3) := by decide +kernel
theorem dX4_unsized_67 : decode cX4_unsized 67 = .ok (.dsub, 1) := by decide +kernel
theorem dX4_unsized_68 : decode cX4_unsized 68 = .ok (.ldc2_w 98, 3) := by decide +kernel
theorem dX4_unsized_71 : decode cX4_unsized 71 = .ok (.dmul, 1) := by decide +kernel
theorem dX4_unsized_72 : decode cX4_unsized 72 = .ok (.dadd, 1) := by decide +kernel
theorem dX4_unsized_73 : decode cX4_unsized 73 = .ok (.dreturn, 1) := by decide +kernel
theorem dX4_ofEdge_0 : decode cX4_ofEdge 0 = .ok (.iload_n 2, 1) := by decide +kernel
theorem dX4_ofEdge_1 : decode cX4_ofEdge 1 = .ok (.ifCond .ne 12, 3) := by decide +kernel
theorem dX4_ofEdge_4 : decode cX4_ofEdge 4 = .ok (.aload_n 0, 1) := by decide +kernel
theorem dX4_ofEdge_5 : decode cX4_ofEdge 5 = .ok (.getfield 15, 3) := by decide +kernel
theorem dX4_ofEdge_8 : decode cX4_ofEdge 8 = .ok (.iload_n 1, 1) := by decide +kernel
theorem dX4_ofEdge_9 : decode cX4_ofEdge 9 = .ok (.daload, 1) := by decide +kernel
theorem dX4_ofEdge_10 : decode cX4_ofEdge 10 = .ok (.goto 13, 3) := by decide +kernel
theorem dX4_ofEdge_13 : decode cX4_ofEdge 13 = .ok (.ldc2_w 100, 3) := by decide +kernel
theorem dX4_ofEdge_16 : decode cX4_ofEdge 16 = .ok (.aload_n 0, 1) := by decide +kernel
theorem dX4_ofEdge_17 : decode cX4_ofEdge 17 = .ok (.getfield 15, 3) := by decide +kernel
theorem dX4_ofEdge_20 : decode cX4_ofEdge 20 = .ok (.iload_n 1, 1) := by decide +kernel
theorem dX4_ofEdge_21 : decode cX4_ofEdge 21 = .ok (.daload, 1) := by decide +kernel
theorem dX4_ofEdge_22 : decode cX4_ofEdge 22 = .ok (.dmul, 1) := by decide +kernel
theorem dX4_ofEdge_23 : decode cX4_ofEdge 23 = .ok (.dreturn, 1) := by decide +kernel
theorem dX5_init_0 : decode cX5_init 0 = .ok (.aload_n 0, 1) := by decide +kernel
theorem dX5_init_1 : decode cX5_init 1 = .ok (.invokespecial 3, 3) := by decide +kernel
theorem dX5_init_4 : decode cX5_init 4 = .ok (.aload_n 0, 1) := by decide +kernel
theorem dX5_init_5 : decode cX5_init 5 = .ok (.iconst (-1), 1) := by decide +kernel
theorem dX5_init_6 : decode cX5_init 6 = .ok (.putfield 9, 3) := by decide +kernel
theorem dX5_init_9 : decode cX5_init 9 = .ok (.aload_n 0, 1) := by decide +kernel
theorem dX5_init_10 : decode cX5_init 10 = .ok (.iconst (-1), 1) := by decide +kernel
theorem dX5_init_11 : decode cX5_init 11 = .ok (.putfield 15, 3) := by decide +kernel
theorem dX5_init_14 : decode cX5_init 14 = .ok (.aload_n 0, 1) := by decide +kernel
theorem dX5_init_15 : decode cX5_init 15 = .ok (.iconst (-1), 1) := by decide +kernel
theorem dX5_init_16 : decode cX5_init 16 = .ok (.putfield 18, 3) := by decide +kernel
theorem dX5_init_19 : decode cX5_init 19 = .ok (.aload_n 0, 1) := by decide +kernel
theorem dX5_init_20 : decode cX5_init 20 = .ok (.iconst 1, 1) := by decide +kernel
theorem dX5_init_21 : decode cX5_init 21 = .ok (.putfield 21, 3) := by decide +kernel
theorem dX5_init_24 : decode cX5_init 24 = .ok (.aload_n 0, 1) := by decide +kernel
theorem dX5_init_25 : decode cX5_init 25 = .ok (.fconst 1, 1) := by decide +kernel
theorem dX5_init_26 : decode cX5_init 26 = .ok (.putfield 24, 3) := by decide +kernel
theorem dX5_init_29 : decode cX5_init 29 = .ok (.aload_n 0, 1) := by decide +kernel
theorem dX5_init_30 : decode cX5_init 30 = .ok (.aload_n 1, 1) := by decide +kernel
theorem dX5_init_31 : decode cX5_init 31 = .ok (.putfield 28, 3) := by decide +kernel
theorem dX5_init_34 : decode cX5_init 34 = .ok (.return_, 1) := by decide +kernel
theorem dX5_isStart_0 : decode cX5_isStart 0 = .ok (.aload_n 0, 1) := by decide +kernel
theorem dX5_isStart_1 : decode cX5_isStart 1 = .ok (.getfield 32, 3) := by decide +kernel
theorem dX5_isStart_4 : decode cX5_isStart 4 = .ok (.ifCond .eq 21, 3) := by decide +kernel
theorem dX5_isStart_7 : decode cX5_isStart 7 = .ok (.aload_n 0, 1) := by decide +kernel
theorem dX5_isStart_8 : decode cX5_isStart 8 = .ok (.getfield 32, 3) := by decide +kernel
theorem dX5_isStart_11 : decode cX5_isStart 11 = .ok (.bipush 6, 2) := by decide +kernel
theorem dX5_isStart_13 : decode cX5_isStart 13 = .ok (.if_icmp .eq 12, 3) := by decide +kernel
theorem dX5_isStart_16 : decode cX5_isStart 16 = .ok (.aload_n 0, 1) := by decide +kernel
theorem dX5_isStart_17 : decode cX5_isStart 17 = .ok (.getfield 32, 3) := by decide +kernel
theorem dX5_isStart_20 : decode cX5_isStart 20 = .ok (.bipush 7, 2) := by decide +kernel
theorem dX5_isStart_22 : decode cX5_isStart 22 = .ok (.if_icmp .ne 7, 3) := by decide +kernel
theorem dX5_isStart_25 : decode cX5_isStart 25 = .ok (.iconst 1, 1) := by decide +kernel
theorem dX5_isStart_26 : decode cX5_isStart 26 = .ok (.goto 4, 3) := by decide +kernel
theorem dX5_isStart_29 : decode cX5_isStart 29 = .ok (.iconst 0, 1) := by decide +kernel
theorem dX5_isStart_30 : decode cX5_isStart 30 = .ok (.ireturn, 1) := by decide +kernel
theorem dX5_isEndKind_0 : decode cX5_isEndKind 0 = .ok (.aload_n 0, 1) := by decide +kernel
theorem dX5_isEndKind_1 : decode cX5_isEndKind 1 = .ok (.getfield 32, 3) := by decide +kernel
theorem dX5_isEndKind_4 : decode cX5_isEndKind 4 = .ok (.bipush 6, 2) := by decide +kernel
theorem dX5_isEndKind_6 : decode cX5_isEndKind 6 = .ok (.if_icmp .eq 21, 3) := by decide +kernel
theorem dX5_isEndKind_9 : decode cX5_isEndKind 9 = .ok (.aload_n 0, 1) := by decide +kernel
theorem dX5_isEndKind_10 : decode cX5_isEndKind 10 = .ok (.getfield 32, 3) := by decide +kernel
theorem dX5_isEndKind_13 : decode cX5_isEndKind 13 = .ok (.bipush 7, 2) := by decide +kernel
theorem dX5_isEndKind_15 : decode cX5_isEndKind 15 = .ok (.if_icmp .eq 12, 3) := by decide +kernel
theorem dX5_isEndKind_18 : decode cX5_isEndKind 18 = .ok (.aload_n 0, 1) := by decide +kernel
theorem dX5_isEndKind_19 : decode cX5_isEndKind 19 = .ok (.getfield 32, 3) := by decide +kernel
theorem dX5_isEndKind_22 : decode cX5_isEndKind 22 = .ok (.bipush 8, 2) := by decide +kernel
theorem dX5_isEndKind_24 : decode cX5_isEndKind 24 = .ok (.if_icmp .ne 7, 3) := by decide +kernel
theorem dX5_isEndKind_27 : decode cX5_isEndKind 27 = .ok (.iconst 1, 1) := by decide +kernel
theorem dX5_isEndKind_28 : decode cX5_isEndKind 28 = .ok (.goto 4, 3) := by decide +kernel
theorem dX5_isEndKind_31 : decode cX5_isEndKind 31 = .ok (.iconst 0, 1) := by decide +kernel
theorem dX5_isEndKind_32 : decode cX5_isEndKind 32 = .ok (.ireturn, 1) := by decide +kernel
theorem dX5_isGate_0 : decode cX5_isGate 0 = .ok (.aload_n 0, 1) := by decide +kernel
theorem dX5_isGate_1 : decode cX5_isGate 1 = .ok (.getfield 32, 3) := by decide +kernel
theorem dX5_isGate_4 : decode cX5_isGate 4 = .ok (.iconst 1, 1) := by decide +kernel
theorem dX5_isGate_5 : decode cX5_isGate 5 = .ok (.if_icmp .lt 15, 3) := by decide +kernel
theorem dX5_isGate_8 : decode cX5_isGate 8 = .ok (.aload_n 0, 1) := by decide +kernel
theorem dX5_isGate_9 : decode cX5_isGate 9 = .ok (.getfield 32, 3) := by decide +kernel
theorem dX5_isGate_12 : decode cX5_isGate 12 = .ok (.iconst 5, 1) := by decide +kernel
theorem dX5_isGate_13 : decode cX5_isGate 13 = .ok (.if_icmp .gt 7, 3) := by decide +kernel
theorem dX5_isGate_16 : decode cX5_isGate 16 = .ok (.iconst 1, 1) := by decide +kernel
theorem dX5_isGate_17 : decode cX5_isGate 17 = .ok (.goto 4, 3) := by decide +kernel
theorem dX5_isGate_20 : decode cX5_isGate 20 = .ok (.iconst 0, 1) := by decide +kernel
theorem dX5_isGate_21 : decode cX5_isGate 21 = .ok (.ireturn, 1) := by decide +kernel
theorem dX5_lag_0 : decode cX5_lag 0 = .ok (.aload_n 0, 1) := by decide +kernel
theorem dX5_lag_1 : decode cX5_lag 1 = .ok (.getfield 28, 3) := by decide +kernel
theorem dX5_lag_4 : decode cX5_lag 4 = .ok (.getfield 35, 3) := by decide +kernel
theorem dX5_lag_7 : decode cX5_lag 7 = .ok (.aload_n 0, 1) := by decide +kernel
theorem dX5_lag_8 : decode cX5_lag 8 = .ok (.getfield 40, 3) := by decide +kernel
theorem dX5_lag_11 : decode cX5_lag 11 = .ok (.iadd, 1) := by decide +kernel
theorem dX5_lag_12 : decode cX5_lag 12 = .ok (.i2d, 1) := by decide +kernel
theorem dX5_lag_13 : decode cX5_lag 13 = .ok (.ldc2_w 43, 3) := by decide +kernel
theorem dX5_lag_16 : decode cX5_lag 16 = .ok (.dmul, 1) := by decide +kernel
theorem dX5_lag_17 : decode cX5_lag 17 = .ok (.dreturn, 1) := by decide +kernel
theorem dX5_makes_0 : decode cX5_makes 0 = .ok (.aload_n 0, 1) := by decide +kernel
theorem dX5_makes_1 : decode cX5_makes 1 = .ok (.getfield 32, 3) := by decide +kernel
theorem dX5_makes_4 : decode cX5_makes 4 = .ok (.iconst 5, 1) := by decide +kernel
theorem dX5_makes_5 : decode cX5_makes 5 = .ok (.if_icmp .ne 5, 3) := by decide +kernel
theorem dX5_makes_8 : decode cX5_makes 8 = .ok (.iconst 1, 1) := by decide +kernel
theorem dX5_makes_9 : decode cX5_makes 9 = .ok (.ireturn, 1) := by decide +kernel
theorem dX5_makes_10 : decode cX5_makes 10 = .ok (.aload_n 0, 1) := by decide +kernel
theorem dX5_makes_11 : decode cX5_makes 11 = .ok (.getfield 32, 3) := by decide +kernel
theorem dX5_makes_14 : decode cX5_makes 14 = .ok (.iconst 2, 1) := by decide +kernel
theorem dX5_makes_15 : decode cX5_makes 15 = .ok (.if_icmp .eq 11, 3) := by decide +kernel
theorem dX5_makes_18 : decode cX5_makes 18 = .ok (.aload_n 0, 1) := by decide +kernel
theorem dX5_makes_19 : decode cX5_makes 19 = .ok (.getfield 32, 3) := by decide +kernel
theorem dX5_makes_22 : decode cX5_makes 22 = .ok (.iconst 4, 1) := by decide +kernel
theorem dX5_makes_23 : decode cX5_makes 23 = .ok (.if_icmp .ne 7, 3) := by decide +kernel
theorem dX5_makes_26 : decode cX5_makes 26 = .ok (.iconst 1, 1) := by decide +kernel
theorem dX5_makes_27 : decode cX5_makes 27 = .ok (.goto 4, 3) := by decide +kernel
theorem dX5_makes_30 : decode cX5_makes 30 = .ok (.iconst 0, 1) := by decide +kernel
theorem dX5_makes_31 : decode cX5_makes 31 = .ok (.istore_n 3, 1) := by decide +kernel
theorem dX5_makes_32 : decode cX5_makes 32 = .ok (.iload_n 3, 1) := by decide +kernel
theorem dX5_makes_33 : decode cX5_makes 33 = .ok (.ifCond .eq 16, 3) := by decide +kernel
theorem dX5_makes_36 : decode cX5_makes 36 = .ok (.iload_n 1, 1) := by decide +kernel
theorem dX5_makes_37 : decode cX5_makes 37 = .ok (.iload_n 2, 1) := by decide +kernel
theorem dX5_makes_38 : decode cX5_makes 38 = .ok (.if_icmp .eq 7, 3) := by decide +kernel
theorem dX5_makes_41 : decode cX5_makes 41 = .ok (.iconst 1, 1) := by decide +kernel
theorem dX5_makes_42 : decode cX5_makes 42 = .ok (.goto 17, 3) := by decide +kernel
theorem dX5_makes_45 : decode cX5_makes 45 = .ok (.iconst 0, 1) := by decide +kernel
theorem dX5_makes_46 : decode cX5_makes 46 = .ok (.goto 13, 3) := by decide +kernel
theorem dX5_makes_49 : decode cX5_makes 49 = .ok (.iload_n 1, 1) := by decide +kernel
theorem dX5_makes_50 : decode cX5_makes 50 = .ok (.iload_n 2, 1) := by decide +kernel
theorem dX5_makes_51 : decode cX5_makes 51 = .ok (.if_icmp .ne 7, 3) := by decide +kernel
theorem dX5_makes_54 : decode cX5_makes 54 = .ok (.iconst 1, 1) := by decide +kernel
theorem dX5_makes_55 : decode cX5_makes 55 = .ok (.goto 4, 3) := by decide +kernel
theorem dX5_makes_58 : decode cX5_makes 58 = .ok (.iconst 0, 1) := by decide +kernel
theorem dX5_makes_59 : decode cX5_makes 59 = .ok (.ireturn, 1) := by decide +kernel
theorem dX5_tell_0 : decode cX5_tell 0 = .ok (.iload_n 1, 1) := by decide +kernel
theorem dX5_tell_1 : decode cX5_tell 1 = .ok (.tableswitch 60 0 4 #[35, 40, 45, 50, 55], 35) := by decide +kernel
theorem dX5_tell_36 : decode cX5_tell 36 = .ok (.aload_n 0, 1) := by decide +kernel
theorem dX5_tell_37 : decode cX5_tell 37 = .ok (.getfield 32, 3) := by decide +kernel
theorem dX5_tell_40 : decode cX5_tell 40 = .ok (.ireturn, 1) := by decide +kernel
theorem dX5_tell_41 : decode cX5_tell 41 = .ok (.aload_n 0, 1) := by decide +kernel
theorem dX5_tell_42 : decode cX5_tell 42 = .ok (.getfield 9, 3) := by decide +kernel
theorem dX5_tell_45 : decode cX5_tell 45 = .ok (.ireturn, 1) := by decide +kernel
theorem dX5_tell_46 : decode cX5_tell 46 = .ok (.aload_n 0, 1) := by decide +kernel
theorem dX5_tell_47 : decode cX5_tell 47 = .ok (.getfield 15, 3) := by decide +kernel
theorem dX5_tell_50 : decode cX5_tell 50 = .ok (.ireturn, 1) := by decide +kernel
theorem dX5_tell_51 : decode cX5_tell 51 = .ok (.aload_n 0, 1) := by decide +kernel
theorem dX5_tell_52 : decode cX5_tell 52 = .ok (.getfield 18, 3) := by decide +kernel
theorem dX5_tell_55 : decode cX5_tell 55 = .ok (.ireturn, 1) := by decide +kernel
theorem dX5_tell_56 : decode cX5_tell 56 = .ok (.aload_n 0, 1) := by decide +kernel
theorem dX5_tell_57 : decode cX5_tell 57 = .ok (.getfield 21, 3) := by decide +kernel
theorem dX5_tell_60 : decode cX5_tell 60 = .ok (.ireturn, 1) := by decide +kernel
theorem dX5_tell_61 : decode cX5_tell 61 = .ok (.aload_n 0, 1) := by decide +kernel
theorem dX5_tell_62 : decode cX5_tell 62 = .ok (.getfield 40, 3) := by decide +kernel
theorem dX5_tell_65 : decode cX5_tell 65 = .ok (.ireturn, 1) := by decide +kernel
theorem dX6_init_0 : decode cX6_init 0 = .ok (.aload_n 0, 1) := by decide +kernel
theorem dX6_init_1 : decode cX6_init 1 = .ok (.invokespecial 3, 3) := by decide +kernel
theorem dX6_init_4 : decode cX6_init 4 = .ok (.aload_n 0, 1) := by decide +kernel
theorem dX6_init_5 : decode cX6_init 5 = .ok (.bipush 16, 2) := by decide +kernel
theorem dX6_init_7 : decode cX6_init 7 = .ok (.newarray .int, 2) := by decide +kernel
theorem dX6_init_9 : decode cX6_init 9 = .ok (.putfield 9, 3) := by decide +kernel
theorem dX6_init_12 : decode cX6_init 12 = .ok (.aload_n 0, 1) := by decide +kernel
theorem dX6_init_13 : decode cX6_init 13 = .ok (.bipush 16, 2) := by decide +kernel
theorem dX6_init_15 : decode cX6_init 15 = .ok (.newarray .int, 2) := by decide +kernel
theorem dX6_init_17 : decode cX6_init 17 = .ok (.putfield 15, 3) := by decide +kernel
theorem dX6_init_20 : decode cX6_init 20 = .ok (.aload_n 0, 1) := by decide +kernel
theorem dX6_init_21 : decode cX6_init 21 = .ok (.sipush 256, 3) := by decide +kernel
theorem dX6_init_24 : decode cX6_init 24 = .ok (.newarray .int, 2) := by decide +kernel
theorem dX6_init_26 : decode cX6_init 26 = .ok (.putfield 18, 3) := by decide +kernel
theorem dX6_init_29 : decode cX6_init 29 = .ok (.aload_n 0, 1) := by decide +kernel
theorem dX6_init_30 : decode cX6_init 30 = .ok (.sipush 256, 3) := by decide +kernel
theorem dX6_init_33 : decode cX6_init 33 = .ok (.newarray .int, 2) := by decide +kernel
theorem dX6_init_35 : decode cX6_init 35 = .ok (.putfield 21, 3) := by decide +kernel
theorem dX6_init_38 : decode cX6_init 38 = .ok (.aload_n 0, 1) := by decide +kernel
theorem dX6_init_39 : decode cX6_init 39 = .ok (.aload_n 1, 1) := by decide +kernel
theorem dX6_init_40 : decode cX6_init 40 = .ok (.putfield 24, 3) := by decide +kernel
theorem dX6_init_43 : decode cX6_init 43 = .ok (.return_, 1) := by decide +kernel
theorem dX6_prepare_0 : decode cX6_prepare 0 = .ok (.aload_n 0, 1) := by decide +kernel
theorem dX6_prepare_1 : decode cX6_prepare 1 = .ok (.getfield 28, 3) := by decide +kernel
theorem dX6_prepare_4 : decode cX6_prepare 4 = .ok (.ifCond .eq 4, 3) := by decide +kernel
theorem dX6_prepare_7 : decode cX6_prepare 7 = .ok (.return_, 1) := by decide +kernel
theorem dX6_prepare_8 : decode cX6_prepare 8 = .ok (.iconst 0, 1) := by decide +kernel
theorem dX6_prepare_9 : decode cX6_prepare 9 = .ok (.istore_n 1, 1) := by decide +kernel
theorem dX6_prepare_10 : decode cX6_prepare 10 = .ok (.iload_n 1, 1) := by decide +kernel
theorem dX6_prepare_11 : decode cX6_prepare 11 = .ok (.aload_n 0, 1) := by decide +kernel
theorem dX6_prepare_12 : decode cX6_prepare 12 = .ok (.getfield 24, 3) := by decide +kernel
theorem dX6_prepare_15 : decode cX6_prepare 15 = .ok (.getfield 32, 3) := by decide +kernel
theorem dX6_prepare_18 : decode cX6_prepare 18 = .ok (.if_icmp .ge 113, 3) := by decide +kernel
theorem dX6_prepare_21 : decode cX6_prepare 21 = .ok (.aload_n 0, 1) := by decide +kernel
theorem dX6_prepare_22 : decode cX6_prepare 22 = .ok (.getfield 24, 3) := by decide +kernel
theorem dX6_prepare_25 : decode cX6_prepare 25 = .ok (.getfield 38, 3) := by decide +kernel
theorem dX6_prepare_28 : decode cX6_prepare 28 = .ok (.iload_n 1, 1) := by decide +kernel
theorem dX6_prepare_29 : decode cX6_prepare 29 = .ok (.aaload, 1) := by decide +kernel
theorem dX6_prepare_30 : decode cX6_prepare 30 = .ok (.astore_n 2, 1) := by decide +kernel
theorem dX6_prepare_31 : decode cX6_prepare 31 = .ok (.iconst 0, 1) := by decide +kernel
theorem dX6_prepare_32 : decode cX6_prepare 32 = .ok (.istore_n 3, 1) := by decide +kernel
theorem dX6_prepare_33 : decode cX6_prepare 33 = .ok (.iload_n 3, 1) := by decide +kernel
theorem dX6_prepare_34 : decode cX6_prepare 34 = .ok (.aload_n 0, 1) := by decide +kernel
theorem dX6_prepare_35 : decode cX6_prepare 35 = .ok (.getfield 24, 3) := by decide +kernel
theorem dX6_prepare_38 : decode cX6_prepare 38 = .ok (.getfield 32, 3) := by decide +kernel
theorem dX6_prepare_41 : decode cX6_prepare 41 = .ok (.if_icmp .ge 21, 3) := by decide +kernel
theorem dX6_prepare_44 : decode cX6_prepare 44 = .ok (.aload_n 0, 1) := by decide +kernel
theorem dX6_prepare_45 : decode cX6_prepare 45 = .ok (.getfield 18, 3) := by decide +kernel
theorem dX6_prepare_48 : decode cX6_prepare 48 = .ok (.iload_n 3, 1) := by decide +kernel
theorem dX6_prepare_49 : decode cX6_prepare 49 = .ok (.bipush 16, 2) := by decide +kernel
theorem dX6_prepare_51 : decode cX6_prepare 51 = .ok (.imul, 1) := by decide +kernel
theorem dX6_prepare_52 : decode cX6_prepare 52 = .ok (.iload_n 1, 1) := by decide +kernel
theorem dX6_prepare_53 : decode cX6_prepare 53 = .ok (.iadd, 1) := by decide +kernel
theorem dX6_prepare_54 : decode cX6_prepare 54 = .ok (.iconst 0, 1) := by decide +kernel
theorem dX6_prepare_55 : decode cX6_prepare 55 = .ok (.iastore, 1) := by decide +kernel
theorem dX6_prepare_56 : decode cX6_prepare 56 = .ok (.iinc 3 1, 3) := by decide +kernel
theorem dX6_prepare_59 : decode cX6_prepare 59 = .ok (.goto (-26), 3) := by decide +kernel
theorem dX6_prepare_62 : decode cX6_prepare 62 = .ok (.aload_n 0, 1) := by decide +kernel
theorem dX6_prepare_63 : decode cX6_prepare 63 = .ok (.getfield 9, 3) := by decide +kernel
theorem dX6_prepare_66 : decode cX6_prepare 66 = .ok (.iload_n 1, 1) := by decide +kernel
theorem dX6_prepare_67 : decode cX6_prepare 67 = .ok (.iconst 0, 1) := by decide +kernel
theorem dX6_prepare_68 : decode cX6_prepare 68 = .ok (.iastore, 1) := by decide +kernel
theorem dX6_prepare_69 : decode cX6_prepare 69 = .ok (.aload_n 2, 1) := by decide +kernel
theorem dX6_prepare_70 : decode cX6_prepare 70 = .ok (.invokevirtual 42, 3) := by decide +kernel
theorem dX6_prepare_73 : decode cX6_prepare 73 = .ok (.ifCond .eq 27, 3) := by decide +kernel
theorem dX6_prepare_76 : decode cX6_prepare 76 = .ok (.aload_n 0, 1) := by decide +kernel
theorem dX6_prepare_77 : decode cX6_prepare 77 = .ok (.getfield 9, 3) := by decide +kernel
theorem dX6_prepare_80 : decode cX6_prepare 80 = .ok (.iload_n 1, 1) := by decide +kernel
theorem dX6_prepare_81 : decode cX6_prepare 81 = .ok (.iconst 1, 1) := by decide +kernel
theorem dX6_prepare_82 : decode cX6_prepare 82 = .ok (.iload_n 1, 1) := by decide +kernel
theorem dX6_prepare_83 : decode cX6_prepare 83 = .ok (.ishl, 1) := by decide +kernel
theorem dX6_prepare_84 : decode cX6_prepare 84 = .ok (.iastore, 1) := by decide +kernel
theorem dX6_prepare_85 : decode cX6_prepare 85 = .ok (.aload_n 0, 1) := by decide +kernel
theorem dX6_prepare_86 : decode cX6_prepare 86 = .ok (.getfield 18, 3) := by decide +kernel
theorem dX6_prepare_89 : decode cX6_prepare 89 = .ok (.iload_n 1, 1) := by decide +kernel
theorem dX6_prepare_90 : decode cX6_prepare 90 = .ok (.bipush 16, 2) := by decide +kernel
theorem dX6_prepare_92 : decode cX6_prepare 92 = .ok (.imul, 1) := by decide +kernel
theorem dX6_prepare_93 : decode cX6_prepare 93 = .ok (.iload_n 1, 1) := by decide +kernel
theorem dX6_prepare_94 : decode cX6_prepare 94 = .ok (.iadd, 1) := by decide +kernel
theorem dX6_prepare_95 : decode cX6_prepare 95 = .ok (.iconst 1, 1) := by decide +kernel
theorem dX6_prepare_96 : decode cX6_prepare 96 = .ok (.iastore, 1) := by decide +kernel
theorem dX6_prepare_97 : decode cX6_prepare 97 = .ok (.goto 28, 3) := by decide +kernel
theorem dX6_prepare_100 : decode cX6_prepare 100 = .ok (.aload_n 2, 1) := by decide +kernel
theorem dX6_prepare_101 : decode cX6_prepare 101 = .ok (.invokevirtual 48, 3) := by decide +kernel
theorem dX6_prepare_104 : decode cX6_prepare 104 = .ok (.ifCond .eq 21, 3) := by decide +kernel
theorem dX6_prepare_107 : decode cX6_prepare 107 = .ok (.aload_n 0, 1) := by decide +kernel
theorem dX6_prepare_108 : decode cX6_prepare 108 = .ok (.iload_n 1, 1) := by decide +kernel
theorem dX6_prepare_109 : decode cX6_prepare 109 = .ok (.aload_n 2, 1) := by decide +kernel
theorem dX6_prepare_110 : decode cX6_prepare 110 = .ok (.getfield 51, 3) := by decide +kernel
theorem dX6_prepare_113 : decode cX6_prepare 113 = .ok (.invokevirtual 54, 3) := by decide +kernel
theorem dX6_prepare_116 : decode cX6_prepare 116 = .ok (.aload_n 0, 1) := by decide +kernel
theorem dX6_prepare_117 : decode cX6_prepare 117 = .ok (.iload_n 1, 1) := by decide +kernel
theorem dX6_prepare_118 : decode cX6_prepare 118 = .ok (.aload_n 2, 1) := by decide +kernel
theorem dX6_prepare_119 : decode cX6_prepare 119 = .ok (.getfield 58, 3) := by decide +kernel
theorem dX6_prepare_122 : decode cX6_prepare 122 = .ok (.invokevirtual 54, 3) := by decide +kernel
theorem dX6_prepare_125 : decode cX6_prepare 125 = .ok (.iinc 1 1, 3) := by decide +kernel
theorem dX6_prepare_128 : decode cX6_prepare 128 = .ok (.goto (-118), 3) := by decide +kernel
theorem dX6_prepare_131 : decode cX6_prepare 131 = .ok (.iconst 0, 1) := by decide +kernel
theorem dX6_prepare_132 : decode cX6_prepare 132 = .ok (.istore_n 1, 1) := by decide +kernel
theorem dX6_prepare_133 : decode cX6_prepare 133 = .ok (.iload_n 1, 1) := by decide +kernel
theorem dX6_prepare_134 : decode cX6_prepare 134 = .ok (.aload_n 0, 1) := by decide +kernel
theorem dX6_prepare_135 : decode cX6_prepare 135 = .ok (.getfield 24, 3) := by decide +kernel
theorem dX6_prepare_138 : decode cX6_prepare 138 = .ok (.getfield 32, 3) := by decide +kernel
theorem dX6_prepare_141 : decode cX6_prepare 141 = .ok (.if_icmp .ge 14, 3) := by decide +kernel
theorem dX6_prepare_144 : decode cX6_prepare 144 = .ok (.aload_n 0, 1) := by decide +kernel
theorem dX6_prepare_145 : decode cX6_prepare 145 = .ok (.iload_n 1, 1) := by decide +kernel
theorem dX6_prepare_146 : decode cX6_prepare 146 = .ok (.invokevirtual 61, 3) := by decide +kernel
theorem dX6_prepare_149 : decode cX6_prepare 149 = .ok (.iinc 1 1, 3) := by decide +kernel
theorem dX6_prepare_152 : decode cX6_prepare 152 = .ok (.goto (-19), 3) := by decide +kernel
theorem dX6_prepare_155 : decode cX6_prepare 155 = .ok (.aload_n 0, 1) := by decide +kernel
theorem dX6_prepare_156 : decode cX6_prepare 156 = .ok (.iconst 1, 1) := by decide +kernel
theorem dX6_prepare_157 : decode cX6_prepare 157 = .ok (.putfield 28, 3) := by decide +kernel
theorem dX6_prepare_160 : decode cX6_prepare 160 = .ok (.return_, 1) := by decide +kernel
theorem dX6_join_0 : decode cX6_join 0 = .ok (.aload_n 0, 1) := by decide +kernel
theorem dX6_join_1 : decode cX6_join 1 = .ok (.getfield 24, 3) := by decide +kernel
theorem dX6_join_4 : decode cX6_join 4 = .ok (.iload_n 2, 1) := by decide +kernel
theorem dX6_join_5 : decode cX6_join 5 = .ok (.invokevirtual 65, 3) := by decide +kernel
theorem dX6_join_8 : decode cX6_join 8 = .ok (.ifCond .ne 4, 3) := by decide +kernel
theorem dX6_join_11 : decode cX6_join 11 = .ok (.return_, 1) := by decide +kernel
theorem dX6_join_12 : decode cX6_join 12 = .ok (.aload_n 0, 1) := by decide +kernel
theorem dX6_join_13 : decode cX6_join 13 = .ok (.getfield 9, 3) := by decide +kernel
theorem dX6_join_16 : decode cX6_join 16 = .ok (.iload_n 1, 1) := by decide +kernel
theorem dX6_join_17 : decode cX6_join 17 = .ok (.dup2, 1) := by decide +kernel
theorem dX6_join_18 : decode cX6_join 18 = .ok (.iaload, 1) := by decide +kernel
theorem dX6_join_19 : decode cX6_join 19 = .ok (.aload_n 0, 1) := by decide +kernel
theorem dX6_join_20 : decode cX6_join 20 = .ok (.getfield 9, 3) := by decide +kernel
theorem dX6_join_23 : decode cX6_join 23 = .ok (.iload_n 2, 1) := by decide +kernel
theorem dX6_join_24 : decode cX6_join 24 = .ok (.iaload, 1) := by decide +kernel
theorem dX6_join_25 : decode cX6_join 25 = .ok (.ior, 1) := by decide +kernel
theorem dX6_join_26 : decode cX6_join 26 = .ok (.iastore, 1) := by decide +kernel
theorem dX6_join_27 : decode cX6_join 27 = .ok (.iconst 0, 1) := by decide +kernel
theorem dX6_join_28 : decode cX6_join 28 = .ok (.istore_n 3, 1) := by decide +kernel
theorem dX6_join_29 : decode cX6_join 29 = .ok (.iload_n 3, 1) := by decide +kernel
theorem dX6_join_30 : decode cX6_join 30 = .ok (.iload_n 2, 1) := by decide +kernel
theorem dX6_join_31 : decode cX6_join 31 = .ok (.if_icmp .gt 34, 3) := by decide +kernel
theorem dX6_join_34 : decode cX6_join 34 = .ok (.aload_n 0, 1) := by decide +kernel
theorem dX6_join_35 : decode cX6_join 35 = .ok (.getfield 18, 3) := by decide +kernel
theorem dX6_join_38 : decode cX6_join 38 = .ok (.iload_n 3, 1) := by decide +kernel
theorem dX6_join_39 : decode cX6_join 39 = .ok (.bipush 16, 2) := by decide +kernel
theorem dX6_join_41 : decode cX6_join 41 = .ok (.imul, 1) := by decide +kernel
theorem dX6_join_42 : decode cX6_join 42 = .ok (.iload_n 1, 1) := by decide +kernel
theorem dX6_join_43 : decode cX6_join 43 = .ok (.iadd, 1) := by decide +kernel
theorem dX6_join_44 : decode cX6_join 44 = .ok (.dup2, 1) := by decide +kernel
theorem dX6_join_45 : decode cX6_join 45 = .ok (.iaload, 1) := by decide +kernel
theorem dX6_join_46 : decode cX6_join 46 = .ok (.aload_n 0, 1) := by decide +kernel
theorem dX6_join_47 : decode cX6_join 47 = .ok (.getfield 18, 3) := by decide +kernel
theorem dX6_join_50 : decode cX6_join 50 = .ok (.iload_n 3, 1) := by decide +kernel
theorem dX6_join_51 : decode cX6_join 51 = .ok (.bipush 16, 2) := by decide +kernel
theorem dX6_join_53 : decode cX6_join 53 = .ok (.imul, 1) := by decide +kernel
theorem dX6_join_54 : decode cX6_join 54 = .ok (.iload_n 2, 1) := by decide +kernel
theorem dX6_join_55 : decode cX6_join 55 = .ok (.iadd, 1) := by decide +kernel
theorem dX6_join_56 : decode cX6_join 56 = .ok (.iaload, 1) := by decide +kernel
theorem dX6_join_57 : decode cX6_join 57 = .ok (.iadd, 1) := by decide +kernel
theorem dX6_join_58 : decode cX6_join 58 = .ok (.iastore, 1) := by decide +kernel
theorem dX6_join_59 : decode cX6_join 59 = .ok (.iinc 3 1, 3) := by decide +kernel
theorem dX6_join_62 : decode cX6_join 62 = .ok (.goto (-33), 3) := by decide +kernel
theorem dX6_join_65 : decode cX6_join 65 = .ok (.return_, 1) := by decide +kernel
theorem dX6_check_0 : decode cX6_check 0 = .ok (.aload_n 0, 1) := by decide +kernel
theorem dX6_check_1 : decode cX6_check 1 = .ok (.getfield 15, 3) := by decide +kernel
theorem dX6_check_4 : decode cX6_check 4 = .ok (.iload_n 1, 1) := by decide +kernel
theorem dX6_check_5 : decode cX6_check 5 = .ok (.iconst 0, 1) := by decide +kernel
theorem dX6_check_6 : decode cX6_check 6 = .ok (.iastore, 1) := by decide +kernel
theorem dX6_check_7 : decode cX6_check 7 = .ok (.iconst 0, 1) := by decide +kernel
theorem dX6_check_8 : decode cX6_check 8 = .ok (.istore_n 2, 1) := by decide +kernel
theorem dX6_check_9 : decode cX6_check 9 = .ok (.iload_n 2, 1) := by decide +kernel
theorem dX6_check_10 : decode cX6_check 10 = .ok (.aload_n 0, 1) := by decide +kernel
theorem dX6_check_11 : decode cX6_check 11 = .ok (.getfield 24, 3) := by decide +kernel
theorem dX6_check_14 : decode cX6_check 14 = .ok (.getfield 32, 3) := by decide +kernel
theorem dX6_check_17 : decode cX6_check 17 = .ok (.if_icmp .ge 102, 3) := by decide +kernel
theorem dX6_check_20 : decode cX6_check 20 = .ok (.aload_n 0, 1) := by decide +kernel
theorem dX6_check_21 : decode cX6_check 21 = .ok (.iload_n 2, 1) := by decide +kernel
theorem dX6_check_22 : decode cX6_check 22 = .ok (.iload_n 1, 1) := by decide +kernel
theorem dX6_check_23 : decode cX6_check 23 = .ok (.invokevirtual 69, 3) := by decide +kernel
theorem dX6_check_26 : decode cX6_check 26 = .ok (.ifCond .eq 87, 3) := by decide +kernel
theorem dX6_check_29 : decode cX6_check 29 = .ok (.aload_n 0, 1) := by decide +kernel
theorem dX6_check_30 : decode cX6_check 30 = .ok (.getfield 24, 3) := by decide +kernel
theorem dX6_check_33 : decode cX6_check 33 = .ok (.iload_n 2, 1) := by decide +kernel
theorem dX6_check_34 : decode cX6_check 34 = .ok (.iload_n 1, 1) := by decide +kernel
theorem dX6_check_35 : decode cX6_check 35 = .ok (.invokevirtual 73, 3) := by decide +kernel
theorem dX6_check_38 : decode cX6_check 38 = .ok (.ifCond .eq 75, 3) := by decide +kernel
theorem dX6_check_41 : decode cX6_check 41 = .ok (.aload_n 0, 1) := by decide +kernel
theorem dX6_check_42 : decode cX6_check 42 = .ok (.getfield 24, 3) := by decide +kernel
theorem dX6_check_45 : decode cX6_check 45 = .ok (.iload_n 2, 1) := by decide +kernel
theorem dX6_check_46 : decode cX6_check 46 = .ok (.iload_n 1, 1) := by decide +kernel
theorem dX6_check_47 : decode cX6_check 47 = .ok (.invokevirtual 76, 3) := by decide +kernel
theorem dX6_check_50 : decode cX6_check 50 = .ok (.istore_n 3, 1) := by decide +kernel
theorem dX6_check_51 : decode cX6_check 51 = .ok (.iload_n 3, 1) := by decide +kernel
theorem dX6_check_52 : decode cX6_check 52 = .ok (.iconst (-1), 1) := by decide +kernel
theorem dX6_check_53 : decode cX6_check 53 = .ok (.if_icmp .ne 7, 3) := by decide +kernel
theorem dX6_check_56 : decode cX6_check 56 = .ok (.iconst 1, 1) := by decide +kernel
theorem dX6_check_57 : decode cX6_check 57 = .ok (.goto 15, 3) := by decide +kernel
theorem dX6_check_60 : decode cX6_check 60 = .ok (.aload_n 0, 1) := by decide +kernel
theorem dX6_check_61 : decode cX6_check 61 = .ok (.getfield 24, 3) := by decide +kernel
theorem dX6_check_64 : decode cX6_check 64 = .ok (.getfield 80, 3) := by decide +kernel
theorem dX6_check_67 : decode cX6_check 67 = .ok (.iload_n 3, 1) := by decide +kernel
theorem dX6_check_68 : decode cX6_check 68 = .ok (.aaload, 1) := by decide +kernel
theorem dX6_check_69 : decode cX6_check 69 = .ok (.getfield 84, 3) := by decide +kernel
theorem dX6_check_72 : decode cX6_check 72 = .ok (.istore 4, 2) := by decide +kernel
theorem dX6_check_74 : decode cX6_check 74 = .ok (.iload 4, 2) := by decide +kernel
theorem dX6_check_76 : decode cX6_check 76 = .ok (.ifCond .eq 37, 3) := by decide +kernel
theorem dX6_check_79 : decode cX6_check 79 = .ok (.aload_n 0, 1) := by decide +kernel
theorem dX6_check_80 : decode cX6_check 80 = .ok (.getfield 15, 3) := by decide +kernel
theorem dX6_check_83 : decode cX6_check 83 = .ok (.iload_n 1, 1) := by decide +kernel
theorem dX6_check_84 : decode cX6_check 84 = .ok (.dup2, 1) := by decide +kernel
theorem dX6_check_85 : decode cX6_check 85 = .ok (.iaload, 1) := by decide +kernel
theorem dX6_check_86 : decode cX6_check 86 = .ok (.iconst 1, 1) := by decide +kernel
theorem dX6_check_87 : decode cX6_check 87 = .ok (.iload_n 2, 1) := by decide +kernel
theorem dX6_check_88 : decode cX6_check 88 = .ok (.ishl, 1) := by decide +kernel
theorem dX6_check_89 : decode cX6_check 89 = .ok (.ior, 1) := by decide +kernel
theorem dX6_check_90 : decode cX6_check 90 = .ok (.iastore, 1) := by decide +kernel
theorem dX6_check_91 : decode cX6_check 91 = .ok (.aload_n 0, 1) := by decide +kernel
theorem dX6_check_92 : decode cX6_check 92 = .ok (.getfield 21, 3) := by decide +kernel
theorem dX6_check_95 : decode cX6_check 95 = .ok (.iload_n 2, 1) := by decide +kernel
theorem dX6_check_96 : decode cX6_check 96 = .ok (.bipush 16, 2) := by decide +kernel
theorem dX6_check_98 : decode cX6_check 98 = .ok (.imul, 1) := by decide +kernel
theorem dX6_check_99 : decode cX6_check 99 = .ok (.iload_n 1, 1) := by decide +kernel
theorem dX6_check_100 : decode cX6_check 100 = .ok (.iadd, 1) := by decide +kernel
theorem dX6_check_101 : decode cX6_check 101 = .ok (.aload_n 0, 1) := by decide +kernel
theorem dX6_check_102 : decode cX6_check 102 = .ok (.getfield 24, 3) := by decide +kernel
theorem dX6_check_105 : decode cX6_check 105 = .ok (.iload_n 2, 1) := by decide +kernel
theorem dX6_check_106 : decode cX6_check 106 = .ok (.iload_n 1, 1) := by decide +kernel
theorem dX6_check_107 : decode cX6_check 107 = .ok (.iload 4, 2) := by decide +kernel
theorem dX6_check_109 : decode cX6_check 109 = .ok (.invokevirtual 89, 3) := by decide +kernel
theorem dX6_check_112 : decode cX6_check 112 = .ok (.iastore, 1) := by decide +kernel
theorem dX6_check_113 : decode cX6_check 113 = .ok (.iinc 2 1, 3) := by decide +kernel
theorem dX6_check_116 : decode cX6_check 116 = .ok (.goto (-107), 3) := by decide +kernel
theorem dX6_check_119 : decode cX6_check 119 = .ok (.return_, 1) := by decide +kernel
theorem dX6_reaches_0 : decode cX6_reaches 0 = .ok (.aload_n 0, 1) := by decide +kernel
theorem dX6_reaches_1 : decode cX6_reaches 1 = .ok (.getfield 9, 3) := by decide +kernel
theorem dX6_reaches_4 : decode cX6_reaches 4 = .ok (.iload_n 2, 1) := by decide +kernel
theorem dX6_reaches_5 : decode cX6_reaches 5 = .ok (.iaload, 1) := by decide +kernel
theorem dX6_reaches_6 : decode cX6_reaches 6 = .ok (.iload_n 1, 1) := by decide +kernel
theorem dX6_reaches_7 : decode cX6_reaches 7 = .ok (.ishr, 1) := by decide +kernel
theorem dX6_reaches_8 : decode cX6_reaches 8 = .ok (.iconst 1, 1) := by decide +kernel
theorem dX6_reaches_9 : decode cX6_reaches 9 = .ok (.iand, 1) := by decide +kernel
theorem dX6_reaches_10 : decode cX6_reaches 10 = .ok (.ifCond .eq 7, 3) := by decide +kernel
theorem dX6_reaches_13 : decode cX6_reaches 13 = .ok (.iconst 1, 1) := by decide +kernel
theorem dX6_reaches_14 : decode cX6_reaches 14 = .ok (.goto 4, 3) := by decide +kernel
theorem dX6_reaches_17 : decode cX6_reaches 17 = .ok (.iconst 0, 1) := by decide +kernel
theorem dX6_reaches_18 : decode cX6_reaches 18 = .ok (.ireturn, 1) := by decide +kernel
theorem dX6_comesTo_0 : decode cX6_comesTo 0 = .ok (.aload_n 0, 1) := by decide +kernel
theorem dX6_comesTo_1 : decode cX6_comesTo 1 = .ok (.getfield 24, 3) := by decide +kernel
theorem dX6_comesTo_4 : decode cX6_comesTo 4 = .ok (.getfield 38, 3) := by decide +kernel
theorem dX6_comesTo_7 : decode cX6_comesTo 7 = .ok (.iload_n 2, 1) := by decide +kernel
theorem dX6_comesTo_8 : decode cX6_comesTo 8 = .ok (.aaload, 1) := by decide +kernel
theorem dX6_comesTo_9 : decode cX6_comesTo 9 = .ok (.getfield 51, 3) := by decide +kernel
theorem dX6_comesTo_12 : decode cX6_comesTo 12 = .ok (.istore_n 3, 1) := by decide +kernel
theorem dX6_comesTo_13 : decode cX6_comesTo 13 = .ok (.aload_n 0, 1) := by decide +kernel
theorem dX6_comesTo_14 : decode cX6_comesTo 14 = .ok (.getfield 24, 3) := by decide +kernel
theorem dX6_comesTo_17 : decode cX6_comesTo 17 = .ok (.getfield 38, 3) := by decide +kernel
theorem dX6_comesTo_20 : decode cX6_comesTo 20 = .ok (.iload_n 2, 1) := by decide +kernel
theorem dX6_comesTo_21 : decode cX6_comesTo 21 = .ok (.aaload, 1) := by decide +kernel
theorem dX6_comesTo_22 : decode cX6_comesTo 22 = .ok (.invokevirtual 93, 3) := by decide +kernel
theorem dX6_comesTo_25 : decode cX6_comesTo 25 = .ok (.ifCond .eq 21, 3) := by decide +kernel
theorem dX6_comesTo_28 : decode cX6_comesTo 28 = .ok (.iload_n 3, 1) := by decide +kernel
theorem dX6_comesTo_29 : decode cX6_comesTo 29 = .ok (.iconst (-1), 1) := by decide +kernel
theorem dX6_comesTo_30 : decode cX6_comesTo 30 = .ok (.if_icmp .eq 16, 3) := by decide +kernel
theorem dX6_comesTo_33 : decode cX6_comesTo 33 = .ok (.aload_n 0, 1) := by decide +kernel
theorem dX6_comesTo_34 : decode cX6_comesTo 34 = .ok (.iload_n 1, 1) := by decide +kernel
theorem dX6_comesTo_35 : decode cX6_comesTo 35 = .ok (.iload_n 3, 1) := by decide +kernel
theorem dX6_comesTo_36 : decode cX6_comesTo 36 = .ok (.invokevirtual 96, 3) := by decide +kernel
theorem dX6_comesTo_39 : decode cX6_comesTo 39 = .ok (.ifCond .eq 7, 3) := by decide +kernel
theorem dX6_comesTo_42 : decode cX6_comesTo 42 = .ok (.iconst 1, 1) := by decide +kernel
theorem dX6_comesTo_43 : decode cX6_comesTo 43 = .ok (.goto 4, 3) := by decide +kernel
theorem dX6_comesTo_46 : decode cX6_comesTo 46 = .ok (.iconst 0, 1) := by decide +kernel
theorem dX6_comesTo_47 : decode cX6_comesTo 47 = .ok (.ireturn, 1) := by decide +kernel
theorem dX6_isChecked_0 : decode cX6_isChecked 0 = .ok (.aload_n 0, 1) := by decide +kernel
theorem dX6_isChecked_1 : decode cX6_isChecked 1 = .ok (.getfield 15, 3) := by decide +kernel
theorem dX6_isChecked_4 : decode cX6_isChecked 4 = .ok (.iload_n 2, 1) := by decide +kernel
theorem dX6_isChecked_5 : decode cX6_isChecked 5 = .ok (.iaload, 1) := by decide +kernel
theorem dX6_isChecked_6 : decode cX6_isChecked 6 = .ok (.iload_n 1, 1) := by decide +kernel
theorem dX6_isChecked_7 : decode cX6_isChecked 7 = .ok (.ishr, 1) := by decide +kernel
theorem dX6_isChecked_8 : decode cX6_isChecked 8 = .ok (.iconst 1, 1) := by decide +kernel
theorem dX6_isChecked_9 : decode cX6_isChecked 9 = .ok (.iand, 1) := by decide +kernel
theorem dX6_isChecked_10 : decode cX6_isChecked 10 = .ok (.ifCond .eq 7, 3) := by decide +kernel
theorem dX6_isChecked_13 : decode cX6_isChecked 13 = .ok (.iconst 1, 1) := by decide +kernel
theorem dX6_isChecked_14 : decode cX6_isChecked 14 = .ok (.goto 4, 3) := by decide +kernel
theorem dX6_isChecked_17 : decode cX6_isChecked 17 = .ok (.iconst 0, 1) := by decide +kernel
theorem dX6_isChecked_18 : decode cX6_isChecked 18 = .ok (.ireturn, 1) := by decide +kernel
theorem dX6_hasCheck_0 : decode cX6_hasCheck 0 = .ok (.aload_n 0, 1) := by decide +kernel
theorem dX6_hasCheck_1 : decode cX6_hasCheck 1 = .ok (.getfield 15, 3) := by decide +kernel
theorem dX6_hasCheck_4 : decode cX6_hasCheck 4 = .ok (.iload_n 1, 1) := by decide +kernel
theorem dX6_hasCheck_5 : decode cX6_hasCheck 5 = .ok (.iaload, 1) := by decide +kernel
theorem dX6_hasCheck_6 : decode cX6_hasCheck 6 = .ok (.ifCond .eq 7, 3) := by decide +kernel
theorem dX6_hasCheck_9 : decode cX6_hasCheck 9 = .ok (.iconst 1, 1) := by decide +kernel
theorem dX6_hasCheck_10 : decode cX6_hasCheck 10 = .ok (.goto 4, 3) := by decide +kernel
theorem dX6_hasCheck_13 : decode cX6_hasCheck 13 = .ok (.iconst 0, 1) := by decide +kernel
theorem dX6_hasCheck_14 : decode cX6_hasCheck 14 = .ok (.ireturn, 1) := by decide +kernel
theorem dX6_gapBetween_0 : decode cX6_gapBetween 0 = .ok (.aload_n 0, 1) := by decide +kernel
theorem dX6_gapBetween_1 : decode cX6_gapBetween 1 = .ok (.getfield 21, 3) := by decide +kernel
theorem dX6_gapBetween_4 : decode cX6_gapBetween 4 = .ok (.iload_n 1, 1) := by decide +kernel
theorem dX6_gapBetween_5 : decode cX6_gapBetween 5 = .ok (.bipush 16, 2) := by decide +kernel
theorem dX6_gapBetween_7 : decode cX6_gapBetween 7 = .ok (.imul, 1) := by decide +kernel
theorem dX6_gapBetween_8 : decode cX6_gapBetween 8 = .ok (.iload_n 2, 1) := by decide +kernel
theorem dX6_gapBetween_9 : decode cX6_gapBetween 9 = .ok (.iadd, 1) := by decide +kernel
theorem dX6_gapBetween_10 : decode cX6_gapBetween 10 = .ok (.iaload, 1) := by decide +kernel
theorem dX6_gapBetween_11 : decode cX6_gapBetween 11 = .ok (.ireturn, 1) := by decide +kernel
theorem dX6_waysTo_0 : decode cX6_waysTo 0 = .ok (.aload_n 0, 1) := by decide +kernel
theorem dX6_waysTo_1 : decode cX6_waysTo 1 = .ok (.getfield 18, 3) := by decide +kernel
theorem dX6_waysTo_4 : decode cX6_waysTo 4 = .ok (.iload_n 1, 1) := by decide +kernel
theorem dX6_waysTo_5 : decode cX6_waysTo 5 = .ok (.bipush 16, 2) := by decide +kernel
theorem dX6_waysTo_7 : decode cX6_waysTo 7 = .ok (.imul, 1) := by decide +kernel
theorem dX6_waysTo_8 : decode cX6_waysTo 8 = .ok (.iload_n 2, 1) := by decide +kernel
theorem dX6_waysTo_9 : decode cX6_waysTo 9 = .ok (.iadd, 1) := by decide +kernel
theorem dX6_waysTo_10 : decode cX6_waysTo 10 = .ok (.iaload, 1) := by decide +kernel
theorem dX6_waysTo_11 : decode cX6_waysTo 11 = .ok (.ireturn, 1) := by decide +kernel
theorem dX6_checkedPairs_0 : decode cX6_checkedPairs 0 = .ok (.iconst 0, 1) := by decide +kernel
theorem dX6_checkedPairs_1 : decode cX6_checkedPairs 1 = .ok (.istore_n 1, 1) := by decide +kernel
theorem dX6_checkedPairs_2 : decode cX6_checkedPairs 2 = .ok (.iconst 0, 1) := by decide +kernel
theorem dX6_checkedPairs_3 : decode cX6_checkedPairs 3 = .ok (.istore_n 2, 1) := by decide +kernel
theorem dX6_checkedPairs_4 : decode cX6_checkedPairs 4 = .ok (.iload_n 2, 1) := by decide +kernel
theorem dX6_checkedPairs_5 : decode cX6_checkedPairs 5 = .ok (.aload_n 0, 1) := by decide +kernel
theorem dX6_checkedPairs_6 : decode cX6_checkedPairs 6 = .ok (.getfield 24, 3) := by decide +kernel
theorem dX6_checkedPairs_9 : decode cX6_checkedPairs 9 = .ok (.getfield 32, 3) := by decide +kernel
theorem dX6_checkedPairs_12 : decode cX6_checkedPairs 12 = .ok (.if_icmp .ge 21, 3) := by decide +kernel
theorem dX6_checkedPairs_15 : decode cX6_checkedPairs 15 = .ok (.iload_n 1, 1) := by decide +kernel
theorem dX6_checkedPairs_16 : decode cX6_checkedPairs 16 = .ok (.aload_n 0, 1) := by decide +kernel
theorem dX6_checkedPairs_17 : decode cX6_checkedPairs 17 = .ok (.getfield 15, 3) := by decide +kernel
theorem dX6_checkedPairs_20 : decode cX6_checkedPairs 20 = .ok (.iload_n 2, 1) := by decide +kernel
theorem dX6_checkedPairs_21 : decode cX6_checkedPairs 21 = .ok (.iaload, 1) := by decide +kernel
theorem dX6_checkedPairs_22 : decode cX6_checkedPairs 22 = .ok (.invokestatic 99, 3) := by decide +kernel
theorem dX6_checkedPairs_25 : decode cX6_checkedPairs 25 = .ok (.iadd, 1) := by decide +kernel
theorem dX6_checkedPairs_26 : decode cX6_checkedPairs 26 = .ok (.istore_n 1, 1) := by decide +kernel
theorem dX6_checkedPairs_27 : decode cX6_checkedPairs 27 = .ok (.iinc 2 1, 3) := by decide +kernel
theorem dX6_checkedPairs_30 : decode cX6_checkedPairs 30 = .ok (.goto (-26), 3) := by decide +kernel
theorem dX6_checkedPairs_33 : decode cX6_checkedPairs 33 = .ok (.iload_n 1, 1) := by decide +kernel
theorem dX6_checkedPairs_34 : decode cX6_checkedPairs 34 = .ok (.ireturn, 1) := by decide +kernel
theorem dX6_crossings_0 : decode cX6_crossings 0 = .ok (.iconst 0, 1) := by decide +kernel
theorem dX6_crossings_1 : decode cX6_crossings 1 = .ok (.istore_n 2, 1) := by decide +kernel
theorem dX6_crossings_2 : decode cX6_crossings 2 = .ok (.iconst 0, 1) := by decide +kernel
theorem dX6_crossings_3 : decode cX6_crossings 3 = .ok (.istore_n 3, 1) := by decide +kernel
theorem dX6_crossings_4 : decode cX6_crossings 4 = .ok (.iload_n 3, 1) := by decide +kernel
theorem dX6_crossings_5 : decode cX6_crossings 5 = .ok (.aload_n 0, 1) := by decide +kernel
theorem dX6_crossings_6 : decode cX6_crossings 6 = .ok (.getfield 24, 3) := by decide +kernel
theorem dX6_crossings_9 : decode cX6_crossings 9 = .ok (.getfield 32, 3) := by decide +kernel
theorem dX6_crossings_12 : decode cX6_crossings 12 = .ok (.if_icmp .ge 70, 3) := by decide +kernel
theorem dX6_crossings_15 : decode cX6_crossings 15 = .ok (.iconst 0, 1) := by decide +kernel
theorem dX6_crossings_16 : decode cX6_crossings 16 = .ok (.istore 4, 2) := by decide +kernel
theorem dX6_crossings_18 : decode cX6_crossings 18 = .ok (.iload 4, 2) := by decide +kernel
theorem dX6_crossings_20 : decode cX6_crossings 20 = .ok (.aload_n 0, 1) := by decide +kernel
theorem dX6_crossings_21 : decode cX6_crossings 21 = .ok (.getfield 24, 3) := by decide +kernel
theorem dX6_crossings_24 : decode cX6_crossings 24 = .ok (.getfield 32, 3) := by decide +kernel
theorem dX6_crossings_27 : decode cX6_crossings 27 = .ok (.if_icmp .ge 49, 3) := by decide +kernel
theorem dX6_crossings_30 : decode cX6_crossings 30 = .ok (.aload_n 0, 1) := by decide +kernel
theorem dX6_crossings_31 : decode cX6_crossings 31 = .ok (.iload_n 3, 1) := by decide +kernel
theorem dX6_crossings_32 : decode cX6_crossings 32 = .ok (.iload 4, 2) := by decide +kernel
theorem dX6_crossings_34 : decode cX6_crossings 34 = .ok (.invokevirtual 69, 3) := by decide +kernel
theorem dX6_crossings_37 : decode cX6_crossings 37 = .ok (.ifCond .eq 33, 3) := by decide +kernel
theorem dX6_crossings_40 : decode cX6_crossings 40 = .ok (.aload_n 0, 1) := by decide +kernel
theorem dX6_crossings_41 : decode cX6_crossings 41 = .ok (.getfield 24, 3) := by decide +kernel
theorem dX6_crossings_44 : decode cX6_crossings 44 = .ok (.iload_n 3, 1) := by decide +kernel
theorem dX6_crossings_45 : decode cX6_crossings 45 = .ok (.iload 4, 2) := by decide +kernel
theorem dX6_crossings_47 : decode cX6_crossings 47 = .ok (.invokevirtual 73, 3) := by decide +kernel
theorem dX6_crossings_50 : decode cX6_crossings 50 = .ok (.ifCond .ne 20, 3) := by decide +kernel
theorem dX6_crossings_53 : decode cX6_crossings 53 = .ok (.iload_n 1, 1) := by decide +kernel
theorem dX6_crossings_54 : decode cX6_crossings 54 = .ok (.ifCond .eq 13, 3) := by decide +kernel
theorem dX6_crossings_57 : decode cX6_crossings 57 = .ok (.aload_n 0, 1) := by decide +kernel
theorem dX6_crossings_58 : decode cX6_crossings 58 = .ok (.iload_n 3, 1) := by decide +kernel
theorem dX6_crossings_59 : decode cX6_crossings 59 = .ok (.iload 4, 2) := by decide +kernel
theorem dX6_crossings_61 : decode cX6_crossings 61 = .ok (.invokevirtual 105, 3) := by decide +kernel
theorem dX6_crossings_64 : decode cX6_crossings 64 = .ok (.ifCond .eq 6, 3) := by decide +kernel
theorem dX6_crossings_67 : decode cX6_crossings 67 = .ok (.iinc 2 1, 3) := by decide +kernel
theorem dX6_crossings_70 : decode cX6_crossings 70 = .ok (.iinc 4 1, 3) := by decide +kernel
theorem dX6_crossings_73 : decode cX6_crossings 73 = .ok (.goto (-55), 3) := by decide +kernel
theorem dX6_crossings_76 : decode cX6_crossings 76 = .ok (.iinc 3 1, 3) := by decide +kernel
theorem dX6_crossings_79 : decode cX6_crossings 79 = .ok (.goto (-75), 3) := by decide +kernel
theorem dX6_crossings_82 : decode cX6_crossings 82 = .ok (.iload_n 2, 1) := by decide +kernel
theorem dX6_crossings_83 : decode cX6_crossings 83 = .ok (.ireturn, 1) := by decide +kernel
theorem dX6_isSafe_0 : decode cX6_isSafe 0 = .ok (.aload_n 0, 1) := by decide +kernel
theorem dX6_isSafe_1 : decode cX6_isSafe 1 = .ok (.getfield 24, 3) := by decide +kernel
theorem dX6_isSafe_4 : decode cX6_isSafe 4 = .ok (.getfield 38, 3) := by decide +kernel
theorem dX6_isSafe_7 : decode cX6_isSafe 7 = .ok (.iload_n 1, 1) := by decide +kernel
theorem dX6_isSafe_8 : decode cX6_isSafe 8 = .ok (.aaload, 1) := by decide +kernel
theorem dX6_isSafe_9 : decode cX6_isSafe 9 = .ok (.getfield 108, 3) := by decide +kernel
theorem dX6_isSafe_12 : decode cX6_isSafe 12 = .ok (.bipush 6, 2) := by decide +kernel
theorem dX6_isSafe_14 : decode cX6_isSafe 14 = .ok (.if_icmp .ne 40, 3) := by decide +kernel
theorem dX6_isSafe_17 : decode cX6_isSafe 17 = .ok (.aload_n 0, 1) := by decide +kernel
theorem dX6_isSafe_18 : decode cX6_isSafe 18 = .ok (.getfield 24, 3) := by decide +kernel
theorem dX6_isSafe_21 : decode cX6_isSafe 21 = .ok (.getfield 38, 3) := by decide +kernel
theorem dX6_isSafe_24 : decode cX6_isSafe 24 = .ok (.iload_n 2, 1) := by decide +kernel
theorem dX6_isSafe_25 : decode cX6_isSafe 25 = .ok (.aaload, 1) := by decide +kernel
theorem dX6_isSafe_26 : decode cX6_isSafe 26 = .ok (.getfield 108, 3) := by decide +kernel
theorem dX6_isSafe_29 : decode cX6_isSafe 29 = .ok (.bipush 6, 2) := by decide +kernel
theorem dX6_isSafe_31 : decode cX6_isSafe 31 = .ok (.if_icmp .ne 23, 3) := by decide +kernel
theorem dX6_isSafe_34 : decode cX6_isSafe 34 = .ok (.aload_n 0, 1) := by decide +kernel
theorem dX6_isSafe_35 : decode cX6_isSafe 35 = .ok (.getfield 24, 3) := by decide +kernel
theorem dX6_isSafe_38 : decode cX6_isSafe 38 = .ok (.getfield 38, 3) := by decide +kernel
theorem dX6_isSafe_41 : decode cX6_isSafe 41 = .ok (.iload_n 2, 1) := by decide +kernel
theorem dX6_isSafe_42 : decode cX6_isSafe 42 = .ok (.aaload, 1) := by decide +kernel
theorem dX6_isSafe_43 : decode cX6_isSafe 43 = .ok (.getfield 51, 3) := by decide +kernel
theorem dX6_isSafe_46 : decode cX6_isSafe 46 = .ok (.iload_n 1, 1) := by decide +kernel
theorem dX6_isSafe_47 : decode cX6_isSafe 47 = .ok (.if_icmp .ne 7, 3) := by decide +kernel
theorem dX6_isSafe_50 : decode cX6_isSafe 50 = .ok (.iconst 1, 1) := by decide +kernel
theorem dX6_isSafe_51 : decode cX6_isSafe 51 = .ok (.goto 4, 3) := by decide +kernel
theorem dX6_isSafe_54 : decode cX6_isSafe 54 = .ok (.iconst 0, 1) := by decide +kernel
theorem dX6_isSafe_55 : decode cX6_isSafe 55 = .ok (.ireturn, 1) := by decide +kernel
theorem dX7_init_0 : decode cX7_init 0 = .ok (.aload_n 0, 1) := by decide +kernel
theorem dX7_init_1 : decode cX7_init 1 = .ok (.invokespecial 3, 3) := by decide +kernel
theorem dX7_init_4 : decode cX7_init 4 = .ok (.aload_n 0, 1) := by decide +kernel
theorem dX7_init_5 : decode cX7_init 5 = .ok (.iconst (-1), 1) := by decide +kernel
theorem dX7_init_6 : decode cX7_init 6 = .ok (.putfield 9, 3) := by decide +kernel
theorem dX7_init_9 : decode cX7_init 9 = .ok (.aload_n 0, 1) := by decide +kernel
theorem dX7_init_10 : decode cX7_init 10 = .ok (.iconst (-1), 1) := by decide +kernel
theorem dX7_init_11 : decode cX7_init 11 = .ok (.putfield 15, 3) := by decide +kernel
theorem dX7_init_14 : decode cX7_init 14 = .ok (.return_, 1) := by decide +kernel
theorem dX7_fits_0 : decode cX7_fits 0 = .ok (.aload_n 0, 1) := by decide +kernel
theorem dX7_fits_1 : decode cX7_fits 1 = .ok (.getfield 9, 3) := by decide +kernel
theorem dX7_fits_4 : decode cX7_fits 4 = .ok (.iconst (-1), 1) := by decide +kernel
theorem dX7_fits_5 : decode cX7_fits 5 = .ok (.if_icmp .eq 11, 3) := by decide +kernel
theorem dX7_fits_8 : decode cX7_fits 8 = .ok (.aload_n 0, 1) := by decide +kernel
theorem dX7_fits_9 : decode cX7_fits 9 = .ok (.getfield 9, 3) := by decide +kernel
theorem dX7_fits_12 : decode cX7_fits 12 = .ok (.iload_n 1, 1) := by decide +kernel
theorem dX7_fits_13 : decode cX7_fits 13 = .ok (.if_icmp .ne 23, 3) := by decide +kernel
theorem dX7_fits_16 : decode cX7_fits 16 = .ok (.aload_n 0, 1) := by decide +kernel
theorem dX7_fits_17 : decode cX7_fits 17 = .ok (.getfield 15, 3) := by decide +kernel
theorem dX7_fits_20 : decode cX7_fits 20 = .ok (.iconst (-1), 1) := by decide +kernel
theorem dX7_fits_21 : decode cX7_fits 21 = .ok (.if_icmp .eq 11, 3) := by decide +kernel
theorem dX7_fits_24 : decode cX7_fits 24 = .ok (.aload_n 0, 1) := by decide +kernel
theorem dX7_fits_25 : decode cX7_fits 25 = .ok (.getfield 15, 3) := by decide +kernel
theorem dX7_fits_28 : decode cX7_fits 28 = .ok (.iload_n 2, 1) := by decide +kernel
theorem dX7_fits_29 : decode cX7_fits 29 = .ok (.if_icmp .ne 7, 3) := by decide +kernel
theorem dX7_fits_32 : decode cX7_fits 32 = .ok (.iconst 1, 1) := by decide +kernel
theorem dX7_fits_33 : decode cX7_fits 33 = .ok (.goto 4, 3) := by decide +kernel
theorem dX7_fits_36 : decode cX7_fits 36 = .ok (.iconst 0, 1) := by decide +kernel
theorem dX7_fits_37 : decode cX7_fits 37 = .ok (.ireturn, 1) := by decide +kernel
theorem dX7_weight_0 : decode cX7_weight 0 = .ok (.aload_n 0, 1) := by decide +kernel
theorem dX7_weight_1 : decode cX7_weight 1 = .ok (.getfield 18, 3) := by decide +kernel
theorem dX7_weight_4 : decode cX7_weight 4 = .ok (.ifCond .ne 7, 3) := by decide +kernel
theorem dX7_weight_7 : decode cX7_weight 7 = .ok (.iconst 4, 1) := by decide +kernel
theorem dX7_weight_8 : decode cX7_weight 8 = .ok (.goto 4, 3) := by decide +kernel
theorem dX7_weight_11 : decode cX7_weight 11 = .ok (.iconst 0, 1) := by decide +kernel
theorem dX7_weight_12 : decode cX7_weight 12 = .ok (.aload_n 0, 1) := by decide +kernel
theorem dX7_weight_13 : decode cX7_weight 13 = .ok (.getfield 9, 3) := by decide +kernel
theorem dX7_weight_16 : decode cX7_weight 16 = .ok (.iconst (-1), 1) := by decide +kernel
theorem dX7_weight_17 : decode cX7_weight 17 = .ok (.if_icmp .ne 7, 3) := by decide +kernel
theorem dX7_weight_20 : decode cX7_weight 20 = .ok (.iconst 0, 1) := by decide +kernel
theorem dX7_weight_21 : decode cX7_weight 21 = .ok (.goto 4, 3) := by decide +kernel
theorem dX7_weight_24 : decode cX7_weight 24 = .ok (.iconst 2, 1) := by decide +kernel
theorem dX7_weight_25 : decode cX7_weight 25 = .ok (.iadd, 1) := by decide +kernel
theorem dX7_weight_26 : decode cX7_weight 26 = .ok (.aload_n 0, 1) := by decide +kernel
theorem dX7_weight_27 : decode cX7_weight 27 = .ok (.getfield 15, 3) := by decide +kernel
theorem dX7_weight_30 : decode cX7_weight 30 = .ok (.iconst (-1), 1) := by decide +kernel
theorem dX7_weight_31 : decode cX7_weight 31 = .ok (.if_icmp .ne 7, 3) := by decide +kernel
theorem dX7_weight_34 : decode cX7_weight 34 = .ok (.iconst 0, 1) := by decide +kernel
theorem dX7_weight_35 : decode cX7_weight 35 = .ok (.goto 4, 3) := by decide +kernel
theorem dX7_weight_38 : decode cX7_weight 38 = .ok (.iconst 1, 1) := by decide +kernel
theorem dX7_weight_39 : decode cX7_weight 39 = .ok (.iadd, 1) := by decide +kernel
theorem dX7_weight_40 : decode cX7_weight 40 = .ok (.ireturn, 1) := by decide +kernel
theorem dX8_init_0 : decode cX8_init 0 = .ok (.aload_n 0, 1) := by decide +kernel
theorem dX8_init_1 : decode cX8_init 1 = .ok (.invokespecial 3, 3) := by decide +kernel
theorem dX8_init_4 : decode cX8_init 4 = .ok (.aload_n 0, 1) := by decide +kernel
theorem dX8_init_5 : decode cX8_init 5 = .ok (.sipush 512, 3) := by decide +kernel
theorem dX8_init_8 : decode cX8_init 8 = .ok (.newarray .double, 2) := by decide +kernel
theorem dX8_init_10 : decode cX8_init 10 = .ok (.putfield 9, 3) := by decide +kernel
theorem dX8_init_13 : decode cX8_init 13 = .ok (.aload_n 0, 1) := by decide +kernel
theorem dX8_init_14 : decode cX8_init 14 = .ok (.sipush 256, 3) := by decide +kernel
theorem dX8_init_17 : decode cX8_init 17 = .ok (.newarray .double, 2) := by decide +kernel
theorem dX8_init_19 : decode cX8_init 19 = .ok (.putfield 15, 3) := by decide +kernel
theorem dX8_init_22 : decode cX8_init 22 = .ok (.aload_n 0, 1) := by decide +kernel
theorem dX8_init_23 : decode cX8_init 23 = .ok (.bipush 16, 2) := by decide +kernel
theorem dX8_init_25 : decode cX8_init 25 = .ok (.newarray .double, 2) := by decide +kernel
theorem dX8_init_27 : decode cX8_init 27 = .ok (.putfield 18, 3) := by decide +kernel
theorem dX8_init_30 : decode cX8_init 30 = .ok (.aload_n 0, 1) := by decide +kernel
theorem dX8_init_31 : decode cX8_init 31 = .ok (.bipush 16, 2) := by decide +kernel
theorem dX8_init_33 : decode cX8_init 33 = .ok (.newarray .double, 2) := by decide +kernel
theorem dX8_init_35 : decode cX8_init 35 = .ok (.putfield 21, 3) := by decide +kernel
theorem dX8_init_38 : decode cX8_init 38 = .ok (.aload_n 0, 1) := by decide +kernel
theorem dX8_init_39 : decode cX8_init 39 = .ok (.aload_n 1, 1) := by decide +kernel
theorem dX8_init_40 : decode cX8_init 40 = .ok (.putfield 24, 3) := by decide +kernel
theorem dX8_init_43 : decode cX8_init 43 = .ok (.aload_n 0, 1) := by decide +kernel
theorem dX8_init_44 : decode cX8_init 44 = .ok (.aload_n 2, 1) := by decide +kernel
theorem dX8_init_45 : decode cX8_init 45 = .ok (.putfield 28, 3) := by decide +kernel
theorem dX8_init_48 : decode cX8_init 48 = .ok (.aload_n 0, 1) := by decide +kernel
theorem dX8_init_49 : decode cX8_init 49 = .ok (.aload_n 3, 1) := by decide +kernel
theorem dX8_init_50 : decode cX8_init 50 = .ok (.putfield 32, 3) := by decide +kernel
theorem dX8_init_53 : decode cX8_init 53 = .ok (.aload_n 0, 1) := by decide +kernel
theorem dX8_init_54 : decode cX8_init 54 = .ok (.iload 4, 2) := by decide +kernel
theorem dX8_init_56 : decode cX8_init 56 = .ok (.putfield 36, 3) := by decide +kernel
theorem dX8_init_59 : decode cX8_init 59 = .ok (.return_, 1) := by decide +kernel
theorem dX8_reckon_0 : decode cX8_reckon 0 = .ok (.iconst 0, 1) := by decide +kernel
theorem dX8_reckon_1 : decode cX8_reckon 1 = .ok (.istore_n 2, 1) := by decide +kernel
theorem dX8_reckon_2 : decode cX8_reckon 2 = .ok (.iload_n 2, 1) := by decide +kernel
theorem dX8_reckon_3 : decode cX8_reckon 3 = .ok (.aload_n 0, 1) := by decide +kernel
theorem dX8_reckon_4 : decode cX8_reckon 4 = .ok (.getfield 24, 3) := by decide +kernel
theorem dX8_reckon_7 : decode cX8_reckon 7 = .ok (.getfield 40, 3) := by decide +kernel
theorem dX8_reckon_10 : decode cX8_reckon 10 = .ok (.if_icmp .ge 70, 3) := by decide +kernel
theorem dX8_reckon_13 : decode cX8_reckon 13 = .ok (.aload_n 0, 1) := by decide +kernel
theorem dX8_reckon_14 : decode cX8_reckon 14 = .ok (.getfield 24, 3) := by decide +kernel
theorem dX8_reckon_17 : decode cX8_reckon 17 = .ok (.getfield 46, 3) := by decide +kernel
theorem dX8_reckon_20 : decode cX8_reckon 20 = .ok (.iload_n 2, 1) := by decide +kernel
theorem dX8_reckon_21 : decode cX8_reckon 21 = .ok (.aaload, 1) := by decide +kernel
theorem dX8_reckon_22 : decode cX8_reckon 22 = .ok (.astore_n 3, 1) := by decide +kernel
theorem dX8_reckon_23 : decode cX8_reckon 23 = .ok (.aload_n 0, 1) := by decide +kernel
theorem dX8_reckon_24 : decode cX8_reckon 24 = .ok (.getfield 21, 3) := by decide +kernel
theorem dX8_reckon_27 : decode cX8_reckon 27 = .ok (.iload_n 2, 1) := by decide +kernel
theorem dX8_reckon_28 : decode cX8_reckon 28 = .ok (.dconst 0, 1) := by decide +kernel
theorem dX8_reckon_29 : decode cX8_reckon 29 = .ok (.dastore, 1) := by decide +kernel
theorem dX8_reckon_30 : decode cX8_reckon 30 = .ok (.aload_n 3, 1) := by decide +kernel
theorem dX8_reckon_31 : decode cX8_reckon 31 = .ok (.getfield 50, 3) := by decide +kernel
theorem dX8_reckon_34 : decode cX8_reckon 34 = .ok (.bipush 7, 2) := by decide +kernel
theorem dX8_reckon_36 : decode cX8_reckon 36 = .ok (.if_icmp .ne 9, 3) := by decide +kernel
theorem dX8_reckon_39 : decode cX8_reckon 39 = .ok (.aload_n 0, 1) := by decide +kernel
theorem dX8_reckon_40 : decode cX8_reckon 40 = .ok (.iload_n 2, 1) := by decide +kernel
theorem dX8_reckon_41 : decode cX8_reckon 41 = .ok (.aload_n 1, 1) := by decide +kernel
theorem dX8_reckon_42 : decode cX8_reckon 42 = .ok (.invokevirtual 55, 3) := by decide +kernel
theorem dX8_reckon_45 : decode cX8_reckon 45 = .ok (.aload_n 3, 1) := by decide +kernel
theorem dX8_reckon_46 : decode cX8_reckon 46 = .ok (.invokevirtual 59, 3) := by decide +kernel
theorem dX8_reckon_49 : decode cX8_reckon 49 = .ok (.ifCond .eq 12, 3) := by decide +kernel
theorem dX8_reckon_52 : decode cX8_reckon 52 = .ok (.aload_n 0, 1) := by decide +kernel
theorem dX8_reckon_53 : decode cX8_reckon 53 = .ok (.iload_n 2, 1) := by decide +kernel
theorem dX8_reckon_54 : decode cX8_reckon 54 = .ok (.aload_n 1, 1) := by decide +kernel
theorem dX8_reckon_55 : decode cX8_reckon 55 = .ok (.invokevirtual 63, 3) := by decide +kernel
theorem dX8_reckon_58 : decode cX8_reckon 58 = .ok (.goto 16, 3) := by decide +kernel
theorem dX8_reckon_61 : decode cX8_reckon 61 = .ok (.aload_n 3, 1) := by decide +kernel
theorem dX8_reckon_62 : decode cX8_reckon 62 = .ok (.invokevirtual 66, 3) := by decide +kernel
theorem dX8_reckon_65 : decode cX8_reckon 65 = .ok (.ifCond .eq 9, 3) := by decide +kernel
theorem dX8_reckon_68 : decode cX8_reckon 68 = .ok (.aload_n 0, 1) := by decide +kernel
theorem dX8_reckon_69 : decode cX8_reckon 69 = .ok (.iload_n 2, 1) := by decide +kernel
theorem dX8_reckon_70 : decode cX8_reckon 70 = .ok (.aload_n 1, 1) := by decide +kernel
theorem dX8_reckon_71 : decode cX8_reckon 71 = .ok (.invokevirtual 69, 3) := by decide +kernel
theorem dX8_reckon_74 : decode cX8_reckon 74 = .ok (.iinc 2 1, 3) := by decide +kernel
theorem dX8_reckon_77 : decode cX8_reckon 77 = .ok (.goto (-75), 3) := by decide +kernel
theorem dX8_reckon_80 : decode cX8_reckon 80 = .ok (.iconst 0, 1) := by decide +kernel
theorem dX8_reckon_81 : decode cX8_reckon 81 = .ok (.istore_n 2, 1) := by decide +kernel
theorem dX8_reckon_82 : decode cX8_reckon 82 = .ok (.iload_n 2, 1) := by decide +kernel
theorem dX8_reckon_83 : decode cX8_reckon 83 = .ok (.aload_n 0, 1) := by decide +kernel
theorem dX8_reckon_84 : decode cX8_reckon 84 = .ok (.getfield 24, 3) := by decide +kernel
theorem dX8_reckon_87 : decode cX8_reckon 87 = .ok (.getfield 40, 3) := by decide +kernel
theorem dX8_reckon_90 : decode cX8_reckon 90 = .ok (.if_icmp .ge 49, 3) := by decide +kernel
theorem dX8_reckon_93 : decode cX8_reckon 93 = .ok (.aload_n 0, 1) := by decide +kernel
theorem dX8_reckon_94 : decode cX8_reckon 94 = .ok (.getfield 24, 3) := by decide +kernel
theorem dX8_reckon_97 : decode cX8_reckon 97 = .ok (.getfield 46, 3) := by decide +kernel
theorem dX8_reckon_100 : decode cX8_reckon 100 = .ok (.iload_n 2, 1) := by decide +kernel
theorem dX8_reckon_101 : decode cX8_reckon 101 = .ok (.aaload, 1) := by decide +kernel
theorem dX8_reckon_102 : decode cX8_reckon 102 = .ok (.getfield 50, 3) := by decide +kernel
theorem dX8_reckon_105 : decode cX8_reckon 105 = .ok (.bipush 6, 2) := by decide +kernel
theorem dX8_reckon_107 : decode cX8_reckon 107 = .ok (.if_icmp .eq 20, 3) := by decide +kernel
theorem dX8_reckon_110 : decode cX8_reckon 110 = .ok (.aload_n 0, 1) := by decide +kernel
theorem dX8_reckon_111 : decode cX8_reckon 111 = .ok (.getfield 24, 3) := by decide +kernel
theorem dX8_reckon_114 : decode cX8_reckon 114 = .ok (.getfield 46, 3) := by decide +kernel
theorem dX8_reckon_117 : decode cX8_reckon 117 = .ok (.iload_n 2, 1) := by decide +kernel
theorem dX8_reckon_118 : decode cX8_reckon 118 = .ok (.aaload, 1) := by decide +kernel
theorem dX8_reckon_119 : decode cX8_reckon 119 = .ok (.getfield 50, 3) := by decide +kernel
theorem dX8_reckon_122 : decode cX8_reckon 122 = .ok (.bipush 8, 2) := by decide +kernel
theorem dX8_reckon_124 : decode cX8_reckon 124 = .ok (.if_icmp .ne 9, 3) := by decide +kernel
theorem dX8_reckon_127 : decode cX8_reckon 127 = .ok (.aload_n 0, 1) := by decide +kernel
theorem dX8_reckon_128 : decode cX8_reckon 128 = .ok (.iload_n 2, 1) := by decide +kernel
theorem dX8_reckon_129 : decode cX8_reckon 129 = .ok (.aload_n 1, 1) := by decide +kernel
theorem dX8_reckon_130 : decode cX8_reckon 130 = .ok (.invokevirtual 55, 3) := by decide +kernel
theorem dX8_reckon_133 : decode cX8_reckon 133 = .ok (.iinc 2 1, 3) := by decide +kernel
theorem dX8_reckon_136 : decode cX8_reckon 136 = .ok (.goto (-54), 3) := by decide +kernel
theorem dX8_reckon_139 : decode cX8_reckon 139 = .ok (.aload_n 0, 1) := by decide +kernel
theorem dX8_reckon_140 : decode cX8_reckon 140 = .ok (.iconst 1, 1) := by decide +kernel
theorem dX8_reckon_141 : decode cX8_reckon 141 = .ok (.putfield 72, 3) := by decide +kernel
theorem dX8_reckon_144 : decode cX8_reckon 144 = .ok (.return_, 1) := by decide +kernel
theorem dX8_delayOf_0 : decode cX8_delayOf 0 = .ok (.aload_n 0, 1) := by decide +kernel
theorem dX8_delayOf_1 : decode cX8_delayOf 1 = .ok (.getfield 36, 3) := by decide +kernel
theorem dX8_delayOf_4 : decode cX8_delayOf 4 = .ok (.ifCond .eq 10, 3) := by decide +kernel
theorem dX8_delayOf_7 : decode cX8_delayOf 7 = .ok (.aload_n 3, 1) := by decide +kernel
theorem dX8_delayOf_8 : decode cX8_delayOf 8 = .ok (.getfield 75, 3) := by decide +kernel
theorem dX8_delayOf_11 : decode cX8_delayOf 11 = .ok (.goto 7, 3) := by decide +kernel
theorem dX8_delayOf_14 : decode cX8_delayOf 14 = .ok (.aload_n 3, 1) := by decide +kernel
theorem dX8_delayOf_15 : decode cX8_delayOf 15 = .ok (.getfield 81, 3) := by decide +kernel
theorem dX8_delayOf_18 : decode cX8_delayOf 18 = .ok (.aload_n 0, 1) := by decide +kernel
theorem dX8_delayOf_19 : decode cX8_delayOf 19 = .ok (.getfield 32, 3) := by decide +kernel
theorem dX8_delayOf_22 : decode cX8_delayOf 22 = .ok (.iload_n 1, 1) := by decide +kernel
theorem dX8_delayOf_23 : decode cX8_delayOf 23 = .ok (.iload_n 2, 1) := by decide +kernel
theorem dX8_delayOf_24 : decode cX8_delayOf 24 = .ok (.invokevirtual 84, 3) := by decide +kernel
theorem dX8_delayOf_27 : decode cX8_delayOf 27 = .ok (.dmul, 1) := by decide +kernel
theorem dX8_delayOf_28 : decode cX8_delayOf 28 = .ok (.dreturn, 1) := by decide +kernel
theorem dX8_depart_0 : decode cX8_depart 0 = .ok (.iconst 0, 1) := by decide +kernel
theorem dX8_depart_1 : decode cX8_depart 1 = .ok (.istore_n 3, 1) := by decide +kernel
theorem dX8_depart_2 : decode cX8_depart 2 = .ok (.iload_n 3, 1) := by decide +kernel
theorem dX8_depart_3 : decode cX8_depart 3 = .ok (.iconst 1, 1) := by decide +kernel
theorem dX8_depart_4 : decode cX8_depart 4 = .ok (.if_icmp .gt 38, 3) := by decide +kernel
theorem dX8_depart_7 : decode cX8_depart 7 = .ok (.aload_n 0, 1) := by decide +kernel
theorem dX8_depart_8 : decode cX8_depart 8 = .ok (.getfield 9, 3) := by decide +kernel
theorem dX8_depart_11 : decode cX8_depart 11 = .ok (.iload_n 1, 1) := by decide +kernel
theorem dX8_depart_12 : decode cX8_depart 12 = .ok (.bipush 32, 2) := by decide +kernel
theorem dX8_depart_14 : decode cX8_depart 14 = .ok (.imul, 1) := by decide +kernel
theorem dX8_depart_15 : decode cX8_depart 15 = .ok (.iload_n 1, 1) := by decide +kernel
theorem dX8_depart_16 : decode cX8_depart 16 = .ok (.iconst 2, 1) := by decide +kernel
theorem dX8_depart_17 : decode cX8_depart 17 = .ok (.imul, 1) := by decide +kernel
theorem dX8_depart_18 : decode cX8_depart 18 = .ok (.iadd, 1) := by decide +kernel
theorem dX8_depart_19 : decode cX8_depart 19 = .ok (.iload_n 3, 1) := by decide +kernel
theorem dX8_depart_20 : decode cX8_depart 20 = .ok (.iadd, 1) := by decide +kernel
theorem dX8_depart_21 : decode cX8_depart 21 = .ok (.aload_n 0, 1) := by decide +kernel
theorem dX8_depart_22 : decode cX8_depart 22 = .ok (.getfield 21, 3) := by decide +kernel
theorem dX8_depart_25 : decode cX8_depart 25 = .ok (.iload_n 1, 1) := by decide +kernel
theorem dX8_depart_26 : decode cX8_depart 26 = .ok (.daload, 1) := by decide +kernel
theorem dX8_depart_27 : decode cX8_depart 27 = .ok (.aload_n 0, 1) := by decide +kernel
theorem dX8_depart_28 : decode cX8_depart 28 = .ok (.iload_n 1, 1) := by decide +kernel
theorem dX8_depart_29 : decode cX8_depart 29 = .ok (.iload_n 3, 1) := by decide +kernel
theorem dX8_depart_30 : decode cX8_depart 30 = .ok (.aload_n 2, 1) := by decide +kernel
theorem dX8_depart_31 : decode cX8_depart 31 = .ok (.invokevirtual 90, 3) := by decide +kernel
theorem dX8_depart_34 : decode cX8_depart 34 = .ok (.dadd, 1) := by decide +kernel
theorem dX8_depart_35 : decode cX8_depart 35 = .ok (.dastore, 1) := by decide +kernel
theorem dX8_depart_36 : decode cX8_depart 36 = .ok (.iinc 3 1, 3) := by decide +kernel
theorem dX8_depart_39 : decode cX8_depart 39 = .ok (.goto (-37), 3) := by decide +kernel
theorem dX8_depart_42 : decode cX8_depart 42 = .ok (.return_, 1) := by decide +kernel
theorem dX8_pass_0 : decode cX8_pass 0 = .ok (.iconst 0, 1) := by decide +kernel
theorem dX8_pass_1 : decode cX8_pass 1 = .ok (.istore_n 3, 1) := by decide +kernel
theorem dX8_pass_2 : decode cX8_pass 2 = .ok (.iload_n 3, 1) := by decide +kernel
theorem dX8_pass_3 : decode cX8_pass 3 = .ok (.iconst 1, 1) := by decide +kernel
theorem dX8_pass_4 : decode cX8_pass 4 = .ok (.if_icmp .gt 102, 3) := by decide +kernel
theorem dX8_pass_7 : decode cX8_pass 7 = .ok (.iload_n 1, 1) := by decide +kernel
theorem dX8_pass_8 : decode cX8_pass 8 = .ok (.iconst 2, 1) := by decide +kernel
theorem dX8_pass_9 : decode cX8_pass 9 = .ok (.imul, 1) := by decide +kernel
theorem dX8_pass_10 : decode cX8_pass 10 = .ok (.iload_n 3, 1) := by decide +kernel
theorem dX8_pass_11 : decode cX8_pass 11 = .ok (.iadd, 1) := by decide +kernel
theorem dX8_pass_12 : decode cX8_pass 12 = .ok (.istore 4, 2) := by decide +kernel
theorem dX8_pass_14 : decode cX8_pass 14 = .ok (.aload_n 0, 1) := by decide +kernel
theorem dX8_pass_15 : decode cX8_pass 15 = .ok (.iload_n 1, 1) := by decide +kernel
theorem dX8_pass_16 : decode cX8_pass 16 = .ok (.iload_n 3, 1) := by decide +kernel
theorem dX8_pass_17 : decode cX8_pass 17 = .ok (.aload_n 2, 1) := by decide +kernel
theorem dX8_pass_18 : decode cX8_pass 18 = .ok (.invokevirtual 90, 3) := by decide +kernel
theorem dX8_pass_21 : decode cX8_pass 21 = .ok (.dstore 5, 2) := by decide +kernel
theorem dX8_pass_23 : decode cX8_pass 23 = .ok (.iconst 0, 1) := by decide +kernel
theorem dX8_pass_24 : decode cX8_pass 24 = .ok (.istore 7, 2) := by decide +kernel
theorem dX8_pass_26 : decode cX8_pass 26 = .ok (.iload 7, 2) := by decide +kernel
theorem dX8_pass_28 : decode cX8_pass 28 = .ok (.iload_n 1, 1) := by decide +kernel
theorem dX8_pass_29 : decode cX8_pass 29 = .ok (.if_icmp .ge 71, 3) := by decide +kernel
theorem dX8_pass_32 : decode cX8_pass 32 = .ok (.aload_n 0, 1) := by decide +kernel
theorem dX8_pass_33 : decode cX8_pass 33 = .ok (.getfield 28, 3) := by decide +kernel
theorem dX8_pass_36 : decode cX8_pass 36 = .ok (.iload 7, 2) := by decide +kernel
theorem dX8_pass_38 : decode cX8_pass 38 = .ok (.iload_n 1, 1) := by decide +kernel
theorem dX8_pass_39 : decode cX8_pass 39 = .ok (.invokevirtual 94, 3) := by decide +kernel
theorem dX8_pass_42 : decode cX8_pass 42 = .ok (.ifCond .eq 14, 3) := by decide +kernel
theorem dX8_pass_45 : decode cX8_pass 45 = .ok (.aload_n 0, 1) := by decide +kernel
theorem dX8_pass_46 : decode cX8_pass 46 = .ok (.iload 7, 2) := by decide +kernel
theorem dX8_pass_48 : decode cX8_pass 48 = .ok (.iload 4, 2) := by decide +kernel
theorem dX8_pass_50 : decode cX8_pass 50 = .ok (.invokevirtual 100, 3) := by decide +kernel
theorem dX8_pass_53 : decode cX8_pass 53 = .ok (.goto 4, 3) := by decide +kernel
theorem dX8_pass_56 : decode cX8_pass 56 = .ok (.iconst (-1), 1) := by decide +kernel
theorem dX8_pass_57 : decode cX8_pass 57 = .ok (.istore 8, 2) := by decide +kernel
theorem dX8_pass_59 : decode cX8_pass 59 = .ok (.iload 8, 2) := by decide +kernel
theorem dX8_pass_61 : decode cX8_pass 61 = .ok (.iconst (-1), 1) := by decide +kernel
theorem dX8_pass_62 : decode cX8_pass 62 = .ok (.if_icmp .eq 32, 3) := by decide +kernel
theorem dX8_pass_65 : decode cX8_pass 65 = .ok (.aload_n 0, 1) := by decide +kernel
theorem dX8_pass_66 : decode cX8_pass 66 = .ok (.getfield 9, 3) := by decide +kernel
theorem dX8_pass_69 : decode cX8_pass 69 = .ok (.iload 7, 2) := by decide +kernel
theorem dX8_pass_71 : decode cX8_pass 71 = .ok (.bipush 32, 2) := by decide +kernel
theorem dX8_pass_73 : decode cX8_pass 73 = .ok (.imul, 1) := by decide +kernel
theorem dX8_pass_74 : decode cX8_pass 74 = .ok (.iload 4, 2) := by decide +kernel
theorem dX8_pass_76 : decode cX8_pass 76 = .ok (.iadd, 1) := by decide +kernel
theorem dX8_pass_77 : decode cX8_pass 77 = .ok (.aload_n 0, 1) := by decide +kernel
theorem dX8_pass_78 : decode cX8_pass 78 = .ok (.getfield 9, 3) := by decide +kernel
theorem dX8_pass_81 : decode cX8_pass 81 = .ok (.iload 7, 2) := by decide +kernel
theorem dX8_pass_83 : decode cX8_pass 83 = .ok (.bipush 32, 2) := by decide +kernel
theorem dX8_pass_85 : decode cX8_pass 85 = .ok (.imul, 1) := by decide +kernel
theorem dX8_pass_86 : decode cX8_pass 86 = .ok (.iload 8, 2) := by decide +kernel
theorem dX8_pass_88 : decode cX8_pass 88 = .ok (.iadd, 1) := by decide +kernel
theorem dX8_pass_89 : decode cX8_pass 89 = .ok (.daload, 1) := by decide +kernel
theorem dX8_pass_90 : decode cX8_pass 90 = .ok (.dload 5, 2) := by decide +kernel
theorem dX8_pass_92 : decode cX8_pass 92 = .ok (.dadd, 1) := by decide +kernel
theorem dX8_pass_93 : decode cX8_pass 93 = .ok (.dastore, 1) := by decide +kernel
theorem dX8_pass_94 : decode cX8_pass 94 = .ok (.iinc 7 1, 3) := by decide +kernel
theorem dX8_pass_97 : decode cX8_pass 97 = .ok (.goto (-71), 3) := by decide +kernel
theorem dX8_pass_100 : decode cX8_pass 100 = .ok (.iinc 3 1, 3) := by decide +kernel
theorem dX8_pass_103 : decode cX8_pass 103 = .ok (.goto (-101), 3) := by decide +kernel
theorem dX8_pass_106 : decode cX8_pass 106 = .ok (.return_, 1) := by decide +kernel
theorem dX8_sourceOf_0 : decode cX8_sourceOf 0 = .ok (.aload_n 0, 1) := by decide +kernel
theorem dX8_sourceOf_1 : decode cX8_sourceOf 1 = .ok (.getfield 24, 3) := by decide +kernel
theorem dX8_sourceOf_4 : decode cX8_sourceOf 4 = .ok (.getfield 46, 3) := by decide +kernel
theorem dX8_sourceOf_7 : decode cX8_sourceOf 7 = .ok (.iload_n 2, 1) := by decide +kernel
theorem dX8_sourceOf_8 : decode cX8_sourceOf 8 = .ok (.iconst 2, 1) := by decide +kernel
theorem dX8_sourceOf_9 : decode cX8_sourceOf 9 = .ok (.idiv, 1) := by decide +kernel
theorem dX8_sourceOf_10 : decode cX8_sourceOf 10 = .ok (.aaload, 1) := by decide +kernel
theorem dX8_sourceOf_11 : decode cX8_sourceOf 11 = .ok (.astore_n 3, 1) := by decide +kernel
theorem dX8_sourceOf_12 : decode cX8_sourceOf 12 = .ok (.iconst (-1), 1) := by decide +kernel
theorem dX8_sourceOf_13 : decode cX8_sourceOf 13 = .ok (.istore 4, 2) := by decide +kernel
theorem dX8_sourceOf_15 : decode cX8_sourceOf 15 = .ok (.iconst 0, 1) := by decide +kernel
theorem dX8_sourceOf_16 : decode cX8_sourceOf 16 = .ok (.istore 5, 2) := by decide +kernel
theorem dX8_sourceOf_18 : decode cX8_sourceOf 18 = .ok (.iload 5, 2) := by decide +kernel
theorem dX8_sourceOf_20 : decode cX8_sourceOf 20 = .ok (.iconst 2, 1) := by decide +kernel
theorem dX8_sourceOf_21 : decode cX8_sourceOf 21 = .ok (.if_icmp .ge 116, 3) := by decide +kernel
theorem dX8_sourceOf_24 : decode cX8_sourceOf 24 = .ok (.iload 5, 2) := by decide +kernel
theorem dX8_sourceOf_26 : decode cX8_sourceOf 26 = .ok (.ifCond .ne 10, 3) := by decide +kernel
theorem dX8_sourceOf_29 : decode cX8_sourceOf 29 = .ok (.aload_n 3, 1) := by decide +kernel
theorem dX8_sourceOf_30 : decode cX8_sourceOf 30 = .ok (.getfield 104, 3) := by decide +kernel
theorem dX8_sourceOf_33 : decode cX8_sourceOf 33 = .ok (.goto 7, 3) := by decide +kernel
theorem dX8_sourceOf_36 : decode cX8_sourceOf 36 = .ok (.aload_n 3, 1) := by decide +kernel
theorem dX8_sourceOf_37 : decode cX8_sourceOf 37 = .ok (.getfield 107, 3) := by decide +kernel
theorem dX8_sourceOf_40 : decode cX8_sourceOf 40 = .ok (.istore 6, 2) := by decide +kernel
theorem dX8_sourceOf_42 : decode cX8_sourceOf 42 = .ok (.iconst 0, 1) := by decide +kernel
theorem dX8_sourceOf_43 : decode cX8_sourceOf 43 = .ok (.istore 7, 2) := by decide +kernel
theorem dX8_sourceOf_45 : decode cX8_sourceOf 45 = .ok (.iload 7, 2) := by decide +kernel
theorem dX8_sourceOf_47 : decode cX8_sourceOf 47 = .ok (.iconst 1, 1) := by decide +kernel
theorem dX8_sourceOf_48 : decode cX8_sourceOf 48 = .ok (.if_icmp .gt 83, 3) := by decide +kernel
theorem dX8_sourceOf_51 : decode cX8_sourceOf 51 = .ok (.iload 6, 2) := by decide +kernel
theorem dX8_sourceOf_53 : decode cX8_sourceOf 53 = .ok (.iconst (-1), 1) := by decide +kernel
theorem dX8_sourceOf_54 : decode cX8_sourceOf 54 = .ok (.if_icmp .eq 77, 3) := by decide +kernel
theorem dX8_sourceOf_57 : decode cX8_sourceOf 57 = .ok (.aload_n 0, 1) := by decide +kernel
theorem dX8_sourceOf_58 : decode cX8_sourceOf 58 = .ok (.getfield 28, 3) := by decide +kernel
theorem dX8_sourceOf_61 : decode cX8_sourceOf 61 = .ok (.iload_n 1, 1) := by decide +kernel
theorem dX8_sourceOf_62 : decode cX8_sourceOf 62 = .ok (.iload 6, 2) := by decide +kernel
theorem dX8_sourceOf_64 : decode cX8_sourceOf 64 = .ok (.invokevirtual 94, 3) := by decide +kernel
theorem dX8_sourceOf_67 : decode cX8_sourceOf 67 = .ok (.ifCond .eq 19, 3) := by decide +kernel
theorem dX8_sourceOf_70 : decode cX8_sourceOf 70 = .ok (.aload_n 3, 1) := by decide +kernel
theorem dX8_sourceOf_71 : decode cX8_sourceOf 71 = .ok (.iload 7, 2) := by decide +kernel
theorem dX8_sourceOf_73 : decode cX8_sourceOf 73 = .ok (.iload_n 2, 1) := by decide +kernel
theorem dX8_sourceOf_74 : decode cX8_sourceOf 74 = .ok (.iconst 2, 1) := by decide +kernel
theorem dX8_sourceOf_75 : decode cX8_sourceOf 75 = .ok (.irem, 1) := by decide +kernel
theorem dX8_sourceOf_76 : decode cX8_sourceOf 76 = .ok (.invokevirtual 110, 3) := by decide +kernel
theorem dX8_sourceOf_79 : decode cX8_sourceOf 79 = .ok (.ifCond .eq 7, 3) := by decide +kernel
theorem dX8_sourceOf_82 : decode cX8_sourceOf 82 = .ok (.iconst 1, 1) := by decide +kernel
theorem dX8_sourceOf_83 : decode cX8_sourceOf 83 = .ok (.goto 4, 3) := by decide +kernel
theorem dX8_sourceOf_86 : decode cX8_sourceOf 86 = .ok (.iconst 0, 1) := by decide +kernel
theorem dX8_sourceOf_87 : decode cX8_sourceOf 87 = .ok (.istore 8, 2) := by decide +kernel
theorem dX8_sourceOf_89 : decode cX8_sourceOf 89 = .ok (.iload 6, 2) := by decide +kernel
theorem dX8_sourceOf_91 : decode cX8_sourceOf 91 = .ok (.iconst 2, 1) := by decide +kernel
theorem dX8_sourceOf_92 : decode cX8_sourceOf 92 = .ok (.imul, 1) := by decide +kernel
theorem dX8_sourceOf_93 : decode cX8_sourceOf 93 = .ok (.iload 7, 2) := by decide +kernel
theorem dX8_sourceOf_95 : decode cX8_sourceOf 95 = .ok (.iadd, 1) := by decide +kernel
theorem dX8_sourceOf_96 : decode cX8_sourceOf 96 = .ok (.istore 9, 2) := by decide +kernel
theorem dX8_sourceOf_98 : decode cX8_sourceOf 98 = .ok (.iload 8, 2) := by decide +kernel
theorem dX8_sourceOf_100 : decode cX8_sourceOf 100 = .ok (.ifCond .eq 25, 3) := by decide +kernel
theorem dX8_sourceOf_103 : decode cX8_sourceOf 103 = .ok (.iload 4, 2) := by decide +kernel
theorem dX8_sourceOf_105 : decode cX8_sourceOf 105 = .ok (.iconst (-1), 1) := by decide +kernel
theorem dX8_sourceOf_106 : decode cX8_sourceOf 106 = .ok (.if_icmp .eq 15, 3) := by decide +kernel
theorem dX8_sourceOf_109 : decode cX8_sourceOf 109 = .ok (.aload_n 0, 1) := by decide +kernel
theorem dX8_sourceOf_110 : decode cX8_sourceOf 110 = .ok (.iload_n 1, 1) := by decide +kernel
theorem dX8_sourceOf_111 : decode cX8_sourceOf 111 = .ok (.iload 9, 2) := by decide +kernel
theorem dX8_sourceOf_113 : decode cX8_sourceOf 113 = .ok (.iload 4, 2) := by decide +kernel
theorem dX8_sourceOf_115 : decode cX8_sourceOf 115 = .ok (.invokevirtual 113, 3) := by decide +kernel
theorem dX8_sourceOf_118 : decode cX8_sourceOf 118 = .ok (.ifCond .eq 7, 3) := by decide +kernel
theorem dX8_sourceOf_121 : decode cX8_sourceOf 121 = .ok (.iload 9, 2) := by decide +kernel
theorem dX8_sourceOf_123 : decode cX8_sourceOf 123 = .ok (.istore 4, 2) := by decide +kernel
theorem dX8_sourceOf_125 : decode cX8_sourceOf 125 = .ok (.iinc 7 1, 3) := by decide +kernel
theorem dX8_sourceOf_128 : decode cX8_sourceOf 128 = .ok (.goto (-83), 3) := by decide +kernel
theorem dX8_sourceOf_131 : decode cX8_sourceOf 131 = .ok (.iinc 5 1, 3) := by decide +kernel
theorem dX8_sourceOf_134 : decode cX8_sourceOf 134 = .ok (.goto (-116), 3) := by decide +kernel
theorem dX8_sourceOf_137 : decode cX8_sourceOf 137 = .ok (.iload 4, 2) := by decide +kernel
theorem dX8_sourceOf_139 : decode cX8_sourceOf 139 = .ok (.ireturn, 1) := by decide +kernel
theorem dX8_beats_0 : decode cX8_beats 0 = .ok (.aload_n 0, 1) := by decide +kernel
theorem dX8_beats_1 : decode cX8_beats 1 = .ok (.getfield 9, 3) := by decide +kernel
theorem dX8_beats_4 : decode cX8_beats 4 = .ok (.iload_n 1, 1) := by decide +kernel
theorem dX8_beats_5 : decode cX8_beats 5 = .ok (.bipush 32, 2) := by decide +kernel
theorem dX8_beats_7 : decode cX8_beats 7 = .ok (.imul, 1) := by decide +kernel
theorem dX8_beats_8 : decode cX8_beats 8 = .ok (.iload_n 2, 1) := by decide +kernel
theorem dX8_beats_9 : decode cX8_beats 9 = .ok (.iadd, 1) := by decide +kernel
theorem dX8_beats_10 : decode cX8_beats 10 = .ok (.daload, 1) := by decide +kernel
theorem dX8_beats_11 : decode cX8_beats 11 = .ok (.dstore 4, 2) := by decide +kernel
theorem dX8_beats_13 : decode cX8_beats 13 = .ok (.aload_n 0, 1) := by decide +kernel
theorem dX8_beats_14 : decode cX8_beats 14 = .ok (.getfield 9, 3) := by decide +kernel
theorem dX8_beats_17 : decode cX8_beats 17 = .ok (.iload_n 1, 1) := by decide +kernel
theorem dX8_beats_18 : decode cX8_beats 18 = .ok (.bipush 32, 2) := by decide +kernel
theorem dX8_beats_20 : decode cX8_beats 20 = .ok (.imul, 1) := by decide +kernel
theorem dX8_beats_21 : decode cX8_beats 21 = .ok (.iload_n 3, 1) := by decide +kernel
theorem dX8_beats_22 : decode cX8_beats 22 = .ok (.iadd, 1) := by decide +kernel
theorem dX8_beats_23 : decode cX8_beats 23 = .ok (.daload, 1) := by decide +kernel
theorem dX8_beats_24 : decode cX8_beats 24 = .ok (.dstore 6, 2) := by decide +kernel
theorem dX8_beats_26 : decode cX8_beats 26 = .ok (.aload_n 0, 1) := by decide +kernel
theorem dX8_beats_27 : decode cX8_beats 27 = .ok (.getfield 36, 3) := by decide +kernel
theorem dX8_beats_30 : decode cX8_beats 30 = .ok (.ifCond .eq 19, 3) := by decide +kernel
theorem dX8_beats_33 : decode cX8_beats 33 = .ok (.dload 4, 2) := by decide +kernel
theorem dX8_beats_35 : decode cX8_beats 35 = .ok (.dload 6, 2) := by decide +kernel
theorem dX8_beats_37 : decode cX8_beats 37 = .ok (.dcmp .l, 1) := by decide +kernel
theorem dX8_beats_38 : decode cX8_beats 38 = .ok (.ifCond .le 7, 3) := by decide +kernel
theorem dX8_beats_41 : decode cX8_beats 41 = .ok (.iconst 1, 1) := by decide +kernel
theorem dX8_beats_42 : decode cX8_beats 42 = .ok (.goto 20, 3) := by decide +kernel
theorem dX8_beats_45 : decode cX8_beats 45 = .ok (.iconst 0, 1) := by decide +kernel
theorem dX8_beats_46 : decode cX8_beats 46 = .ok (.goto 16, 3) := by decide +kernel
theorem dX8_beats_49 : decode cX8_beats 49 = .ok (.dload 4, 2) := by decide +kernel
theorem dX8_beats_51 : decode cX8_beats 51 = .ok (.dload 6, 2) := by decide +kernel
theorem dX8_beats_53 : decode cX8_beats 53 = .ok (.dcmp .g, 1) := by decide +kernel
theorem dX8_beats_54 : decode cX8_beats 54 = .ok (.ifCond .ge 7, 3) := by decide +kernel
theorem dX8_beats_57 : decode cX8_beats 57 = .ok (.iconst 1, 1) := by decide +kernel
theorem dX8_beats_58 : decode cX8_beats 58 = .ok (.goto 4, 3) := by decide +kernel
theorem dX8_beats_61 : decode cX8_beats 61 = .ok (.iconst 0, 1) := by decide +kernel
theorem dX8_beats_62 : decode cX8_beats 62 = .ok (.ireturn, 1) := by decide +kernel
theorem dX8_settle_0 : decode cX8_settle 0 = .ok (.iconst 0, 1) := by decide +kernel
theorem dX8_settle_1 : decode cX8_settle 1 = .ok (.istore_n 3, 1) := by decide +kernel
theorem dX8_settle_2 : decode cX8_settle 2 = .ok (.iload_n 3, 1) := by decide +kernel
theorem dX8_settle_3 : decode cX8_settle 3 = .ok (.aload_n 0, 1) := by decide +kernel
theorem dX8_settle_4 : decode cX8_settle 4 = .ok (.getfield 24, 3) := by decide +kernel
theorem dX8_settle_7 : decode cX8_settle 7 = .ok (.getfield 40, 3) := by decide +kernel
theorem dX8_settle_10 : decode cX8_settle 10 = .ok (.if_icmp .ge 56, 3) := by decide +kernel
theorem dX8_settle_13 : decode cX8_settle 13 = .ok (.aload_n 0, 1) := by decide +kernel
theorem dX8_settle_14 : decode cX8_settle 14 = .ok (.getfield 28, 3) := by decide +kernel
theorem dX8_settle_17 : decode cX8_settle 17 = .ok (.iload_n 3, 1) := by decide +kernel
theorem dX8_settle_18 : decode cX8_settle 18 = .ok (.iload_n 1, 1) := by decide +kernel
theorem dX8_settle_19 : decode cX8_settle 19 = .ok (.invokevirtual 117, 3) := by decide +kernel
theorem dX8_settle_22 : decode cX8_settle 22 = .ok (.ifCond .eq 38, 3) := by decide +kernel
theorem dX8_settle_25 : decode cX8_settle 25 = .ok (.aload_n 0, 1) := by decide +kernel
theorem dX8_settle_26 : decode cX8_settle 26 = .ok (.getfield 15, 3) := by decide +kernel
theorem dX8_settle_29 : decode cX8_settle 29 = .ok (.iload_n 3, 1) := by decide +kernel
theorem dX8_settle_30 : decode cX8_settle 30 = .ok (.bipush 16, 2) := by decide +kernel
theorem dX8_settle_32 : decode cX8_settle 32 = .ok (.imul, 1) := by decide +kernel
theorem dX8_settle_33 : decode cX8_settle 33 = .ok (.iload_n 1, 1) := by decide +kernel
theorem dX8_settle_34 : decode cX8_settle 34 = .ok (.iadd, 1) := by decide +kernel
theorem dX8_settle_35 : decode cX8_settle 35 = .ok (.aload_n 0, 1) := by decide +kernel
theorem dX8_settle_36 : decode cX8_settle 36 = .ok (.getfield 36, 3) := by decide +kernel
theorem dX8_settle_39 : decode cX8_settle 39 = .ok (.ifCond .eq 13, 3) := by decide +kernel
theorem dX8_settle_42 : decode cX8_settle 42 = .ok (.aload_n 0, 1) := by decide +kernel
theorem dX8_settle_43 : decode cX8_settle 43 = .ok (.iload_n 3, 1) := by decide +kernel
theorem dX8_settle_44 : decode cX8_settle 44 = .ok (.iload_n 1, 1) := by decide +kernel
theorem dX8_settle_45 : decode cX8_settle 45 = .ok (.aload_n 2, 1) := by decide +kernel
theorem dX8_settle_46 : decode cX8_settle 46 = .ok (.invokevirtual 120, 3) := by decide +kernel
theorem dX8_settle_49 : decode cX8_settle 49 = .ok (.goto 10, 3) := by decide +kernel
theorem dX8_settle_52 : decode cX8_settle 52 = .ok (.aload_n 0, 1) := by decide +kernel
theorem dX8_settle_53 : decode cX8_settle 53 = .ok (.iload_n 3, 1) := by decide +kernel
theorem dX8_settle_54 : decode cX8_settle 54 = .ok (.iload_n 1, 1) := by decide +kernel
theorem dX8_settle_55 : decode cX8_settle 55 = .ok (.aload_n 2, 1) := by decide +kernel
theorem dX8_settle_56 : decode cX8_settle 56 = .ok (.invokevirtual 123, 3) := by decide +kernel
theorem dX8_settle_59 : decode cX8_settle 59 = .ok (.dastore, 1) := by decide +kernel
theorem dX8_settle_60 : decode cX8_settle 60 = .ok (.iinc 3 1, 3) := by decide +kernel
theorem dX8_settle_63 : decode cX8_settle 63 = .ok (.goto (-61), 3) := by decide +kernel
theorem dX8_settle_66 : decode cX8_settle 66 = .ok (.aload_n 0, 1) := by decide +kernel
theorem dX8_settle_67 : decode cX8_settle 67 = .ok (.getfield 36, 3) := by decide +kernel
theorem dX8_settle_70 : decode cX8_settle 70 = .ok (.ifCond .eq 25, 3) := by decide +kernel
theorem dX8_settle_73 : decode cX8_settle 73 = .ok (.aload_n 0, 1) := by decide +kernel
theorem dX8_settle_74 : decode cX8_settle 74 = .ok (.getfield 24, 3) := by decide +kernel
theorem dX8_settle_77 : decode cX8_settle 77 = .ok (.getfield 46, 3) := by decide +kernel
theorem dX8_settle_80 : decode cX8_settle 80 = .ok (.iload_n 1, 1) := by decide +kernel
theorem dX8_settle_81 : decode cX8_settle 81 = .ok (.aaload, 1) := by decide +kernel
theorem dX8_settle_82 : decode cX8_settle 82 = .ok (.getfield 50, 3) := by decide +kernel
theorem dX8_settle_85 : decode cX8_settle 85 = .ok (.bipush 7, 2) := by decide +kernel
theorem dX8_settle_87 : decode cX8_settle 87 = .ok (.if_icmp .ne 8, 3) := by decide +kernel
theorem dX8_settle_90 : decode cX8_settle 90 = .ok (.aload_n 0, 1) := by decide +kernel
theorem dX8_settle_91 : decode cX8_settle 91 = .ok (.iload_n 1, 1) := by decide +kernel
theorem dX8_settle_92 : decode cX8_settle 92 = .ok (.invokevirtual 126, 3) := by decide +kernel
theorem dX8_settle_95 : decode cX8_settle 95 = .ok (.aload_n 0, 1) := by decide +kernel
theorem dX8_settle_96 : decode cX8_settle 96 = .ok (.getfield 18, 3) := by decide +kernel
theorem dX8_settle_99 : decode cX8_settle 99 = .ok (.iload_n 1, 1) := by decide +kernel
theorem dX8_settle_100 : decode cX8_settle 100 = .ok (.ldc2_w 130, 3) := by decide +kernel
theorem dX8_settle_103 : decode cX8_settle 103 = .ok (.dastore, 1) := by decide +kernel
theorem dX8_settle_104 : decode cX8_settle 104 = .ok (.iconst 0, 1) := by decide +kernel
theorem dX8_settle_105 : decode cX8_settle 105 = .ok (.istore_n 3, 1) := by decide +kernel
theorem dX8_settle_106 : decode cX8_settle 106 = .ok (.iload_n 3, 1) := by decide +kernel
theorem dX8_settle_107 : decode cX8_settle 107 = .ok (.aload_n 0, 1) := by decide +kernel
theorem dX8_settle_108 : decode cX8_settle 108 = .ok (.getfield 24, 3) := by decide +kernel
theorem dX8_settle_111 : decode cX8_settle 111 = .ok (.getfield 40, 3) := by decide +kernel
theorem dX8_settle_114 : decode cX8_settle 114 = .ok (.if_icmp .ge 30, 3) := by decide +kernel
theorem dX8_settle_117 : decode cX8_settle 117 = .ok (.aload_n 0, 1) := by decide +kernel
theorem dX8_settle_118 : decode cX8_settle 118 = .ok (.getfield 18, 3) := by decide +kernel
theorem dX8_settle_121 : decode cX8_settle 121 = .ok (.iload_n 1, 1) := by decide +kernel
theorem dX8_settle_122 : decode cX8_settle 122 = .ok (.aload_n 0, 1) := by decide +kernel
theorem dX8_settle_123 : decode cX8_settle 123 = .ok (.getfield 18, 3) := by decide +kernel
theorem dX8_settle_126 : decode cX8_settle 126 = .ok (.iload_n 1, 1) := by decide +kernel
theorem dX8_settle_127 : decode cX8_settle 127 = .ok (.daload, 1) := by decide +kernel
theorem dX8_settle_128 : decode cX8_settle 128 = .ok (.aload_n 0, 1) := by decide +kernel
theorem dX8_settle_129 : decode cX8_settle 129 = .ok (.iload_n 3, 1) := by decide +kernel
theorem dX8_settle_130 : decode cX8_settle 130 = .ok (.iload_n 1, 1) := by decide +kernel
theorem dX8_settle_131 : decode cX8_settle 131 = .ok (.invokevirtual 132, 3) := by decide +kernel
theorem dX8_settle_134 : decode cX8_settle 134 = .ok (.invokestatic 135, 3) := by decide +kernel
theorem dX8_settle_137 : decode cX8_settle 137 = .ok (.dastore, 1) := by decide +kernel
theorem dX8_settle_138 : decode cX8_settle 138 = .ok (.iinc 3 1, 3) := by decide +kernel
theorem dX8_settle_141 : decode cX8_settle 141 = .ok (.goto (-35), 3) := by decide +kernel
theorem dX8_settle_144 : decode cX8_settle 144 = .ok (.return_, 1) := by decide +kernel
theorem dX8_leftForLate_0 : decode cX8_leftForLate 0 = .ok (.aload_n 0, 1) := by decide +kernel
theorem dX8_leftForLate_1 : decode cX8_leftForLate 1 = .ok (.getfield 24, 3) := by decide +kernel
theorem dX8_leftForLate_4 : decode cX8_leftForLate 4 = .ok (.getfield 46, 3) := by decide +kernel
theorem dX8_leftForLate_7 : decode cX8_leftForLate 7 = .ok (.iload_n 1, 1) := by decide +kernel
theorem dX8_leftForLate_8 : decode cX8_leftForLate 8 = .ok (.aaload, 1) := by decide +kernel
theorem dX8_leftForLate_9 : decode cX8_leftForLate 9 = .ok (.astore 4, 2) := by decide +kernel
theorem dX8_leftForLate_11 : decode cX8_leftForLate 11 = .ok (.aload_n 0, 1) := by decide +kernel
theorem dX8_leftForLate_12 : decode cX8_leftForLate 12 = .ok (.getfield 24, 3) := by decide +kernel
theorem dX8_leftForLate_15 : decode cX8_leftForLate 15 = .ok (.getfield 46, 3) := by decide +kernel
theorem dX8_leftForLate_18 : decode cX8_leftForLate 18 = .ok (.iload_n 2, 1) := by decide +kernel
theorem dX8_leftForLate_19 : decode cX8_leftForLate 19 = .ok (.aaload, 1) := by decide +kernel
theorem dX8_leftForLate_20 : decode cX8_leftForLate 20 = .ok (.astore 5, 2) := by decide +kernel
theorem dX8_leftForLate_22 : decode cX8_leftForLate 22 = .ok (.aload_n 0, 1) := by decide +kernel
theorem dX8_leftForLate_23 : decode cX8_leftForLate 23 = .ok (.getfield 28, 3) := by decide +kernel
theorem dX8_leftForLate_26 : decode cX8_leftForLate 26 = .ok (.iload_n 1, 1) := by decide +kernel
theorem dX8_leftForLate_27 : decode cX8_leftForLate 27 = .ok (.iload_n 2, 1) := by decide +kernel
theorem dX8_leftForLate_28 : decode cX8_leftForLate 28 = .ok (.invokevirtual 139, 3) := by decide +kernel
theorem dX8_leftForLate_31 : decode cX8_leftForLate 31 = .ok (.i2d, 1) := by decide +kernel
theorem dX8_leftForLate_32 : decode cX8_leftForLate 32 = .ok (.dstore 6, 2) := by decide +kernel
theorem dX8_leftForLate_34 : decode cX8_leftForLate 34 = .ok (.dload 6, 2) := by decide +kernel
theorem dX8_leftForLate_36 : decode cX8_leftForLate 36 = .ok (.aload 5, 2) := by decide +kernel
theorem dX8_leftForLate_38 : decode cX8_leftForLate 38 = .ok (.getfield 142, 3) := by decide +kernel
theorem dX8_leftForLate_41 : decode cX8_leftForLate 41 = .ok (.getfield 146, 3) := by decide +kernel
theorem dX8_leftForLate_44 : decode cX8_leftForLate 44 = .ok (.i2d, 1) := by decide +kernel
theorem dX8_leftForLate_45 : decode cX8_leftForLate 45 = .ok (.ldc2_w 151, 3) := by decide +kernel
theorem dX8_leftForLate_48 : decode cX8_leftForLate 48 = .ok (.dmul, 1) := by decide +kernel
theorem dX8_leftForLate_49 : decode cX8_leftForLate 49 = .ok (.dsub, 1) := by decide +kernel
theorem dX8_leftForLate_50 : decode cX8_leftForLate 50 = .ok (.dstore 6, 2) := by decide +kernel
theorem dX8_leftForLate_52 : decode cX8_leftForLate 52 = .ok (.dload 6, 2) := by decide +kernel
theorem dX8_leftForLate_54 : decode cX8_leftForLate 54 = .ok (.aload 5, 2) := by decide +kernel
theorem dX8_leftForLate_56 : decode cX8_leftForLate 56 = .ok (.getfield 50, 3) := by decide +kernel
theorem dX8_leftForLate_59 : decode cX8_leftForLate 59 = .ok (.bipush 8, 2) := by decide +kernel
theorem dX8_leftForLate_61 : decode cX8_leftForLate 61 = .ok (.if_icmp .ne 7, 3) := by decide +kernel
theorem dX8_leftForLate_64 : decode cX8_leftForLate 64 = .ok (.dconst 0, 1) := by decide +kernel
theorem dX8_leftForLate_65 : decode cX8_leftForLate 65 = .ok (.goto 4, 3) := by decide +kernel
theorem dX8_leftForLate_68 : decode cX8_leftForLate 68 = .ok (.dconst 1, 1) := by decide +kernel
theorem dX8_leftForLate_69 : decode cX8_leftForLate 69 = .ok (.dsub, 1) := by decide +kernel
theorem dX8_leftForLate_70 : decode cX8_leftForLate 70 = .ok (.dstore 6, 2) := by decide +kernel
theorem dX8_leftForLate_72 : decode cX8_leftForLate 72 = .ok (.dload 6, 2) := by decide +kernel
theorem dX8_leftForLate_74 : decode cX8_leftForLate 74 = .ok (.aload 5, 2) := by decide +kernel
theorem dX8_leftForLate_76 : decode cX8_leftForLate 76 = .ok (.invokevirtual 153, 3) := by decide +kernel
theorem dX8_leftForLate_79 : decode cX8_leftForLate 79 = .ok (.aload_n 3, 1) := by decide +kernel
theorem dX8_leftForLate_80 : decode cX8_leftForLate 80 = .ok (.getfield 81, 3) := by decide +kernel
theorem dX8_leftForLate_83 : decode cX8_leftForLate 83 = .ok (.dmul, 1) := by decide +kernel
theorem dX8_leftForLate_84 : decode cX8_leftForLate 84 = .ok (.dadd, 1) := by decide +kernel
theorem dX8_leftForLate_85 : decode cX8_leftForLate 85 = .ok (.dstore 6, 2) := by decide +kernel
theorem dX8_leftForLate_87 : decode cX8_leftForLate 87 = .ok (.dload 6, 2) := by decide +kernel
theorem dX8_leftForLate_89 : decode cX8_leftForLate 89 = .ok (.aload 4, 2) := by decide +kernel
theorem dX8_leftForLate_91 : decode cX8_leftForLate 91 = .ok (.invokevirtual 153, 3) := by decide +kernel
theorem dX8_leftForLate_94 : decode cX8_leftForLate 94 = .ok (.aload_n 3, 1) := by decide +kernel
theorem dX8_leftForLate_95 : decode cX8_leftForLate 95 = .ok (.getfield 75, 3) := by decide +kernel
theorem dX8_leftForLate_98 : decode cX8_leftForLate 98 = .ok (.dmul, 1) := by decide +kernel
theorem dX8_leftForLate_99 : decode cX8_leftForLate 99 = .ok (.dsub, 1) := by decide +kernel
theorem dX8_leftForLate_100 : decode cX8_leftForLate 100 = .ok (.dstore 6, 2) := by decide +kernel
theorem dX8_leftForLate_102 : decode cX8_leftForLate 102 = .ok (.dload 6, 2) := by decide +kernel
theorem dX8_leftForLate_104 : decode cX8_leftForLate 104 = .ok (.aload 4, 2) := by decide +kernel
theorem dX8_leftForLate_106 : decode cX8_leftForLate 106 = .ok (.getfield 142, 3) := by decide +kernel
theorem dX8_leftForLate_109 : decode cX8_leftForLate 109 = .ok (.aload 5, 2) := by decide +kernel
theorem dX8_leftForLate_111 : decode cX8_leftForLate 111 = .ok (.getfield 142, 3) := by decide +kernel
theorem dX8_leftForLate_114 : decode cX8_leftForLate 114 = .ok (.aload_n 3, 1) := by decide +kernel
theorem dX8_leftForLate_115 : decode cX8_leftForLate 115 = .ok (.invokestatic 157, 3) := by decide +kernel
theorem dX8_leftForLate_118 : decode cX8_leftForLate 118 = .ok (.dadd, 1) := by decide +kernel
theorem dX8_leftForLate_119 : decode cX8_leftForLate 119 = .ok (.dstore 6, 2) := by decide +kernel
theorem dX8_leftForLate_121 : decode cX8_leftForLate 121 = .ok (.iload_n 1, 1) := by decide +kernel
theorem dX8_leftForLate_122 : decode cX8_leftForLate 122 = .ok (.bipush 32, 2) := by decide +kernel
theorem dX8_leftForLate_124 : decode cX8_leftForLate 124 = .ok (.imul, 1) := by decide +kernel
theorem dX8_leftForLate_125 : decode cX8_leftForLate 125 = .ok (.aload 5, 2) := by decide +kernel
theorem dX8_leftForLate_127 : decode cX8_leftForLate 127 = .ok (.getfield 104, 3) := by decide +kernel
theorem dX8_leftForLate_130 : decode cX8_leftForLate 130 = .ok (.iconst 2, 1) := by decide +kernel
theorem dX8_leftForLate_131 : decode cX8_leftForLate 131 = .ok (.imul, 1) := by decide +kernel
theorem dX8_leftForLate_132 : decode cX8_leftForLate 132 = .ok (.iadd, 1) := by decide +kernel
theorem dX8_leftForLate_133 : decode cX8_leftForLate 133 = .ok (.istore 8, 2) := by decide +kernel
theorem dX8_leftForLate_135 : decode cX8_leftForLate 135 = .ok (.dload 6, 2) := by decide +kernel
theorem dX8_leftForLate_137 : decode cX8_leftForLate 137 = .ok (.aload_n 0, 1) := by decide +kernel
theorem dX8_leftForLate_138 : decode cX8_leftForLate 138 = .ok (.getfield 9, 3) := by decide +kernel
theorem dX8_leftForLate_141 : decode cX8_leftForLate 141 = .ok (.iload 8, 2) := by decide +kernel
theorem dX8_leftForLate_143 : decode cX8_leftForLate 143 = .ok (.iconst 0, 1) := by decide +kernel
theorem dX8_leftForLate_144 : decode cX8_leftForLate 144 = .ok (.iadd, 1) := by decide +kernel
theorem dX8_leftForLate_145 : decode cX8_leftForLate 145 = .ok (.daload, 1) := by decide +kernel
theorem dX8_leftForLate_146 : decode cX8_leftForLate 146 = .ok (.aload_n 0, 1) := by decide +kernel
theorem dX8_leftForLate_147 : decode cX8_leftForLate 147 = .ok (.getfield 9, 3) := by decide +kernel
theorem dX8_leftForLate_150 : decode cX8_leftForLate 150 = .ok (.iload 8, 2) := by decide +kernel
theorem dX8_leftForLate_152 : decode cX8_leftForLate 152 = .ok (.iconst 1, 1) := by decide +kernel
theorem dX8_leftForLate_153 : decode cX8_leftForLate 153 = .ok (.iadd, 1) := by decide +kernel
theorem dX8_leftForLate_154 : decode cX8_leftForLate 154 = .ok (.daload, 1) := by decide +kernel
theorem dX8_leftForLate_155 : decode cX8_leftForLate 155 = .ok (.invokestatic 161, 3) := by decide +kernel
theorem dX8_leftForLate_158 : decode cX8_leftForLate 158 = .ok (.dsub, 1) := by decide +kernel
theorem dX8_leftForLate_159 : decode cX8_leftForLate 159 = .ok (.dreturn, 1) := by decide +kernel
theorem dX8_leftForEarly_0 : decode cX8_leftForEarly 0 = .ok (.aload_n 0, 1) := by decide +kernel
theorem dX8_leftForEarly_1 : decode cX8_leftForEarly 1 = .ok (.getfield 24, 3) := by decide +kernel
theorem dX8_leftForEarly_4 : decode cX8_leftForEarly 4 = .ok (.getfield 46, 3) := by decide +kernel
theorem dX8_leftForEarly_7 : decode cX8_leftForEarly 7 = .ok (.iload_n 1, 1) := by decide +kernel
theorem dX8_leftForEarly_8 : decode cX8_leftForEarly 8 = .ok (.aaload, 1) := by decide +kernel
theorem dX8_leftForEarly_9 : decode cX8_leftForEarly 9 = .ok (.astore 4, 2) := by decide +kernel
theorem dX8_leftForEarly_11 : decode cX8_leftForEarly 11 = .ok (.aload_n 0, 1) := by decide +kernel
theorem dX8_leftForEarly_12 : decode cX8_leftForEarly 12 = .ok (.getfield 24, 3) := by decide +kernel
theorem dX8_leftForEarly_15 : decode cX8_leftForEarly 15 = .ok (.getfield 46, 3) := by decide +kernel
theorem dX8_leftForEarly_18 : decode cX8_leftForEarly 18 = .ok (.iload_n 2, 1) := by decide +kernel
theorem dX8_leftForEarly_19 : decode cX8_leftForEarly 19 = .ok (.aaload, 1) := by decide +kernel
theorem dX8_leftForEarly_20 : decode cX8_leftForEarly 20 = .ok (.astore 5, 2) := by decide +kernel
theorem dX8_leftForEarly_22 : decode cX8_leftForEarly 22 = .ok (.iload_n 1, 1) := by decide +kernel
theorem dX8_leftForEarly_23 : decode cX8_leftForEarly 23 = .ok (.bipush 32, 2) := by decide +kernel
theorem dX8_leftForEarly_25 : decode cX8_leftForEarly 25 = .ok (.imul, 1) := by decide +kernel
theorem dX8_leftForEarly_26 : decode cX8_leftForEarly 26 = .ok (.aload 5, 2) := by decide +kernel
theorem dX8_leftForEarly_28 : decode cX8_leftForEarly 28 = .ok (.getfield 104, 3) := by decide +kernel
theorem dX8_leftForEarly_31 : decode cX8_leftForEarly 31 = .ok (.iconst 2, 1) := by decide +kernel
theorem dX8_leftForEarly_32 : decode cX8_leftForEarly 32 = .ok (.imul, 1) := by decide +kernel
theorem dX8_leftForEarly_33 : decode cX8_leftForEarly 33 = .ok (.iadd, 1) := by decide +kernel
theorem dX8_leftForEarly_34 : decode cX8_leftForEarly 34 = .ok (.istore 6, 2) := by decide +kernel
theorem dX8_leftForEarly_36 : decode cX8_leftForEarly 36 = .ok (.aload_n 0, 1) := by decide +kernel
theorem dX8_leftForEarly_37 : decode cX8_leftForEarly 37 = .ok (.getfield 9, 3) := by decide +kernel
theorem dX8_leftForEarly_40 : decode cX8_leftForEarly 40 = .ok (.iload 6, 2) := by decide +kernel
theorem dX8_leftForEarly_42 : decode cX8_leftForEarly 42 = .ok (.iconst 0, 1) := by decide +kernel
theorem dX8_leftForEarly_43 : decode cX8_leftForEarly 43 = .ok (.iadd, 1) := by decide +kernel
theorem dX8_leftForEarly_44 : decode cX8_leftForEarly 44 = .ok (.daload, 1) := by decide +kernel
theorem dX8_leftForEarly_45 : decode cX8_leftForEarly 45 = .ok (.aload_n 0, 1) := by decide +kernel
theorem dX8_leftForEarly_46 : decode cX8_leftForEarly 46 = .ok (.getfield 9, 3) := by decide +kernel
theorem dX8_leftForEarly_49 : decode cX8_leftForEarly 49 = .ok (.iload 6, 2) := by decide +kernel
theorem dX8_leftForEarly_51 : decode cX8_leftForEarly 51 = .ok (.iconst 1, 1) := by decide +kernel
theorem dX8_leftForEarly_52 : decode cX8_leftForEarly 52 = .ok (.iadd, 1) := by decide +kernel
theorem dX8_leftForEarly_53 : decode cX8_leftForEarly 53 = .ok (.daload, 1) := by decide +kernel
theorem dX8_leftForEarly_54 : decode cX8_leftForEarly 54 = .ok (.invokestatic 135, 3) := by decide +kernel
theorem dX8_leftForEarly_57 : decode cX8_leftForEarly 57 = .ok (.dstore 7, 2) := by decide +kernel
theorem dX8_leftForEarly_59 : decode cX8_leftForEarly 59 = .ok (.dload 7, 2) := by decide +kernel
theorem dX8_leftForEarly_61 : decode cX8_leftForEarly 61 = .ok (.aload 4, 2) := by decide +kernel
theorem dX8_leftForEarly_63 : decode cX8_leftForEarly 63 = .ok (.invokevirtual 153, 3) := by decide +kernel
theorem dX8_leftForEarly_66 : decode cX8_leftForEarly 66 = .ok (.aload_n 3, 1) := by decide +kernel
theorem dX8_leftForEarly_67 : decode cX8_leftForEarly 67 = .ok (.getfield 81, 3) := by decide +kernel
theorem dX8_leftForEarly_70 : decode cX8_leftForEarly 70 = .ok (.dmul, 1) := by decide +kernel
theorem dX8_leftForEarly_71 : decode cX8_leftForEarly 71 = .ok (.dadd, 1) := by decide +kernel
theorem dX8_leftForEarly_72 : decode cX8_leftForEarly 72 = .ok (.dstore 7, 2) := by decide +kernel
theorem dX8_leftForEarly_74 : decode cX8_leftForEarly 74 = .ok (.dload 7, 2) := by decide +kernel
theorem dX8_leftForEarly_76 : decode cX8_leftForEarly 76 = .ok (.aload 5, 2) := by decide +kernel
theorem dX8_leftForEarly_78 : decode cX8_leftForEarly 78 = .ok (.invokevirtual 153, 3) := by decide +kernel
theorem dX8_leftForEarly_81 : decode cX8_leftForEarly 81 = .ok (.aload_n 3, 1) := by decide +kernel
theorem dX8_leftForEarly_82 : decode cX8_leftForEarly 82 = .ok (.getfield 75, 3) := by decide +kernel
theorem dX8_leftForEarly_85 : decode cX8_leftForEarly 85 = .ok (.dmul, 1) := by decide +kernel
theorem dX8_leftForEarly_86 : decode cX8_leftForEarly 86 = .ok (.dsub, 1) := by decide +kernel
theorem dX8_leftForEarly_87 : decode cX8_leftForEarly 87 = .ok (.dstore 7, 2) := by decide +kernel
theorem dX8_leftForEarly_89 : decode cX8_leftForEarly 89 = .ok (.dload 7, 2) := by decide +kernel
theorem dX8_leftForEarly_91 : decode cX8_leftForEarly 91 = .ok (.aload 5, 2) := by decide +kernel
theorem dX8_leftForEarly_93 : decode cX8_leftForEarly 93 = .ok (.getfield 142, 3) := by decide +kernel
theorem dX8_leftForEarly_96 : decode cX8_leftForEarly 96 = .ok (.getfield 146, 3) := by decide +kernel
theorem dX8_leftForEarly_99 : decode cX8_leftForEarly 99 = .ok (.i2d, 1) := by decide +kernel
theorem dX8_leftForEarly_100 : decode cX8_leftForEarly 100 = .ok (.ldc2_w 151, 3) := by decide +kernel
theorem dX8_leftForEarly_103 : decode cX8_leftForEarly 103 = .ok (.dmul, 1) := by decide +kernel
theorem dX8_leftForEarly_104 : decode cX8_leftForEarly 104 = .ok (.dsub, 1) := by decide +kernel
theorem dX8_leftForEarly_105 : decode cX8_leftForEarly 105 = .ok (.dstore 7, 2) := by decide +kernel
theorem dX8_leftForEarly_107 : decode cX8_leftForEarly 107 = .ok (.dload 7, 2) := by decide +kernel
theorem dX8_leftForEarly_109 : decode cX8_leftForEarly 109 = .ok (.aload 5, 2) := by decide +kernel
theorem dX8_leftForEarly_111 : decode cX8_leftForEarly 111 = .ok (.getfield 50, 3) := by decide +kernel
theorem dX8_leftForEarly_114 : decode cX8_leftForEarly 114 = .ok (.bipush 8, 2) := by decide +kernel
theorem dX8_leftForEarly_116 : decode cX8_leftForEarly 116 = .ok (.if_icmp .ne 7, 3) := by decide +kernel
theorem dX8_leftForEarly_119 : decode cX8_leftForEarly 119 = .ok (.dconst 0, 1) := by decide +kernel
theorem dX8_leftForEarly_120 : decode cX8_leftForEarly 120 = .ok (.goto 6, 3) := by decide +kernel
theorem dX8_leftForEarly_123 : decode cX8_leftForEarly 123 = .ok (.ldc2_w 164, 3) := by decide +kernel
theorem dX8_leftForEarly_126 : decode cX8_leftForEarly 126 = .ok (.dsub, 1) := by decide +kernel
theorem dX8_leftForEarly_127 : decode cX8_leftForEarly 127 = .ok (.dstore 7, 2) := by decide +kernel
theorem dX8_leftForEarly_129 : decode cX8_leftForEarly 129 = .ok (.dload 7, 2) := by decide +kernel
theorem dX8_leftForEarly_131 : decode cX8_leftForEarly 131 = .ok (.aload 4, 2) := by decide +kernel
theorem dX8_leftForEarly_133 : decode cX8_leftForEarly 133 = .ok (.getfield 142, 3) := by decide +kernel
theorem dX8_leftForEarly_136 : decode cX8_leftForEarly 136 = .ok (.aload 5, 2) := by decide +kernel
theorem dX8_leftForEarly_138 : decode cX8_leftForEarly 138 = .ok (.getfield 142, 3) := by decide +kernel
theorem dX8_leftForEarly_141 : decode cX8_leftForEarly 141 = .ok (.aload_n 3, 1) := by decide +kernel
theorem dX8_leftForEarly_142 : decode cX8_leftForEarly 142 = .ok (.invokestatic 157, 3) := by decide +kernel
theorem dX8_leftForEarly_145 : decode cX8_leftForEarly 145 = .ok (.dadd, 1) := by decide +kernel
theorem dX8_leftForEarly_146 : decode cX8_leftForEarly 146 = .ok (.dreturn, 1) := by decide +kernel
theorem dX8_credit_0 : decode cX8_credit 0 = .ok (.aload_n 0, 1) := by decide +kernel
theorem dX8_credit_1 : decode cX8_credit 1 = .ok (.getfield 166, 3) := by decide +kernel
theorem dX8_credit_4 : decode cX8_credit 4 = .ok (.aload_n 1, 1) := by decide +kernel
theorem dX8_credit_5 : decode cX8_credit 5 = .ok (.getfield 166, 3) := by decide +kernel
theorem dX8_credit_8 : decode cX8_credit 8 = .ok (.if_icmp .eq 5, 3) := by decide +kernel
theorem dX8_credit_11 : decode cX8_credit 11 = .ok (.dconst 0, 1) := by decide +kernel
theorem dX8_credit_12 : decode cX8_credit 12 = .ok (.dreturn, 1) := by decide +kernel
theorem dX8_credit_13 : decode cX8_credit 13 = .ok (.aload_n 0, 1) := by decide +kernel
theorem dX8_credit_14 : decode cX8_credit 14 = .ok (.getfield 169, 3) := by decide +kernel
theorem dX8_credit_17 : decode cX8_credit 17 = .ok (.aload_n 1, 1) := by decide +kernel
theorem dX8_credit_18 : decode cX8_credit 18 = .ok (.getfield 169, 3) := by decide +kernel
theorem dX8_credit_21 : decode cX8_credit 21 = .ok (.if_icmp .gt 10, 3) := by decide +kernel
theorem dX8_credit_24 : decode cX8_credit 24 = .ok (.aload_n 0, 1) := by decide +kernel
theorem dX8_credit_25 : decode cX8_credit 25 = .ok (.getfield 169, 3) := by decide +kernel
theorem dX8_credit_28 : decode cX8_credit 28 = .ok (.goto 7, 3) := by decide +kernel
theorem dX8_credit_31 : decode cX8_credit 31 = .ok (.aload_n 1, 1) := by decide +kernel
theorem dX8_credit_32 : decode cX8_credit 32 = .ok (.getfield 169, 3) := by decide +kernel
theorem dX8_credit_35 : decode cX8_credit 35 = .ok (.istore_n 3, 1) := by decide +kernel
theorem dX8_credit_36 : decode cX8_credit 36 = .ok (.aload_n 2, 1) := by decide +kernel
theorem dX8_credit_37 : decode cX8_credit 37 = .ok (.getfield 75, 3) := by decide +kernel
theorem dX8_credit_40 : decode cX8_credit 40 = .ok (.aload_n 2, 1) := by decide +kernel
theorem dX8_credit_41 : decode cX8_credit 41 = .ok (.getfield 81, 3) := by decide +kernel
theorem dX8_credit_44 : decode cX8_credit 44 = .ok (.dsub, 1) := by decide +kernel
theorem dX8_credit_45 : decode cX8_credit 45 = .ok (.iload_n 3, 1) := by decide +kernel
theorem dX8_credit_46 : decode cX8_credit 46 = .ok (.i2d, 1) := by decide +kernel
theorem dX8_credit_47 : decode cX8_credit 47 = .ok (.ldc2_w 151, 3) := by decide +kernel
theorem dX8_credit_50 : decode cX8_credit 50 = .ok (.dmul, 1) := by decide +kernel
theorem dX8_credit_51 : decode cX8_credit 51 = .ok (.dmul, 1) := by decide +kernel
theorem dX8_credit_52 : decode cX8_credit 52 = .ok (.dreturn, 1) := by decide +kernel
theorem dX8_lend_0 : decode cX8_lend 0 = .ok (.dconst 0, 1) := by decide +kernel
theorem dX8_lend_1 : decode cX8_lend 1 = .ok (.dstore_n 2, 1) := by decide +kernel
theorem dX8_lend_2 : decode cX8_lend 2 = .ok (.iconst 0, 1) := by decide +kernel
theorem dX8_lend_3 : decode cX8_lend 3 = .ok (.istore 4, 2) := by decide +kernel
theorem dX8_lend_5 : decode cX8_lend 5 = .ok (.iload 4, 2) := by decide +kernel
theorem dX8_lend_7 : decode cX8_lend 7 = .ok (.aload_n 0, 1) := by decide +kernel
theorem dX8_lend_8 : decode cX8_lend 8 = .ok (.getfield 24, 3) := by decide +kernel
theorem dX8_lend_11 : decode cX8_lend 11 = .ok (.getfield 40, 3) := by decide +kernel
theorem dX8_lend_14 : decode cX8_lend 14 = .ok (.if_icmp .ge 41, 3) := by decide +kernel
theorem dX8_lend_17 : decode cX8_lend 17 = .ok (.aload_n 0, 1) := by decide +kernel
theorem dX8_lend_18 : decode cX8_lend 18 = .ok (.getfield 28, 3) := by decide +kernel
theorem dX8_lend_21 : decode cX8_lend 21 = .ok (.iload 4, 2) := by decide +kernel
theorem dX8_lend_23 : decode cX8_lend 23 = .ok (.iload_n 1, 1) := by decide +kernel
theorem dX8_lend_24 : decode cX8_lend 24 = .ok (.invokevirtual 117, 3) := by decide +kernel
theorem dX8_lend_27 : decode cX8_lend 27 = .ok (.ifCond .eq 22, 3) := by decide +kernel
theorem dX8_lend_30 : decode cX8_lend 30 = .ok (.dload_n 2, 1) := by decide +kernel
theorem dX8_lend_31 : decode cX8_lend 31 = .ok (.dconst 0, 1) := by decide +kernel
theorem dX8_lend_32 : decode cX8_lend 32 = .ok (.aload_n 0, 1) := by decide +kernel
theorem dX8_lend_33 : decode cX8_lend 33 = .ok (.getfield 15, 3) := by decide +kernel
theorem dX8_lend_36 : decode cX8_lend 36 = .ok (.iload 4, 2) := by decide +kernel
theorem dX8_lend_38 : decode cX8_lend 38 = .ok (.bipush 16, 2) := by decide +kernel
theorem dX8_lend_40 : decode cX8_lend 40 = .ok (.imul, 1) := by decide +kernel
theorem dX8_lend_41 : decode cX8_lend 41 = .ok (.iload_n 1, 1) := by decide +kernel
theorem dX8_lend_42 : decode cX8_lend 42 = .ok (.iadd, 1) := by decide +kernel
theorem dX8_lend_43 : decode cX8_lend 43 = .ok (.daload, 1) := by decide +kernel
theorem dX8_lend_44 : decode cX8_lend 44 = .ok (.dsub, 1) := by decide +kernel
theorem dX8_lend_45 : decode cX8_lend 45 = .ok (.invokestatic 161, 3) := by decide +kernel
theorem dX8_lend_48 : decode cX8_lend 48 = .ok (.dstore_n 2, 1) := by decide +kernel
theorem dX8_lend_49 : decode cX8_lend 49 = .ok (.iinc 4 1, 3) := by decide +kernel
theorem dX8_lend_52 : decode cX8_lend 52 = .ok (.goto (-47), 3) := by decide +kernel
theorem dX8_lend_55 : decode cX8_lend 55 = .ok (.aload_n 0, 1) := by decide +kernel
theorem dX8_lend_56 : decode cX8_lend 56 = .ok (.getfield 21, 3) := by decide +kernel
theorem dX8_lend_59 : decode cX8_lend 59 = .ok (.iload_n 1, 1) := by decide +kernel
theorem dX8_lend_60 : decode cX8_lend 60 = .ok (.dload_n 2, 1) := by decide +kernel
theorem dX8_lend_61 : decode cX8_lend 61 = .ok (.ldc2_w 164, 3) := by decide +kernel
theorem dX8_lend_64 : decode cX8_lend 64 = .ok (.aload_n 0, 1) := by decide +kernel
theorem dX8_lend_65 : decode cX8_lend 65 = .ok (.getfield 24, 3) := by decide +kernel
theorem dX8_lend_68 : decode cX8_lend 68 = .ok (.getfield 46, 3) := by decide +kernel
theorem dX8_lend_71 : decode cX8_lend 71 = .ok (.iload_n 1, 1) := by decide +kernel
theorem dX8_lend_72 : decode cX8_lend 72 = .ok (.aaload, 1) := by decide +kernel
theorem dX8_lend_73 : decode cX8_lend 73 = .ok (.getfield 142, 3) := by decide +kernel
theorem dX8_lend_76 : decode cX8_lend 76 = .ok (.getfield 172, 3) := by decide +kernel
theorem dX8_lend_79 : decode cX8_lend 79 = .ok (.i2d, 1) := by decide +kernel
theorem dX8_lend_80 : decode cX8_lend 80 = .ok (.dmul, 1) := by decide +kernel
theorem dX8_lend_81 : decode cX8_lend 81 = .ok (.invokestatic 135, 3) := by decide +kernel
theorem dX8_lend_84 : decode cX8_lend 84 = .ok (.dastore, 1) := by decide +kernel
theorem dX8_lend_85 : decode cX8_lend 85 = .ok (.iconst 0, 1) := by decide +kernel
theorem dX8_lend_86 : decode cX8_lend 86 = .ok (.istore 4, 2) := by decide +kernel
theorem dX8_lend_88 : decode cX8_lend 88 = .ok (.iload 4, 2) := by decide +kernel
theorem dX8_lend_90 : decode cX8_lend 90 = .ok (.aload_n 0, 1) := by decide +kernel
theorem dX8_lend_91 : decode cX8_lend 91 = .ok (.getfield 24, 3) := by decide +kernel
theorem dX8_lend_94 : decode cX8_lend 94 = .ok (.getfield 40, 3) := by decide +kernel
theorem dX8_lend_97 : decode cX8_lend 97 = .ok (.if_icmp .ge 68, 3) := by decide +kernel
theorem dX8_lend_100 : decode cX8_lend 100 = .ok (.iload 4, 2) := by decide +kernel
theorem dX8_lend_102 : decode cX8_lend 102 = .ok (.bipush 16, 2) := by decide +kernel
theorem dX8_lend_104 : decode cX8_lend 104 = .ok (.imul, 1) := by decide +kernel
theorem dX8_lend_105 : decode cX8_lend 105 = .ok (.iload_n 1, 1) := by decide +kernel
theorem dX8_lend_106 : decode cX8_lend 106 = .ok (.iadd, 1) := by decide +kernel
theorem dX8_lend_107 : decode cX8_lend 107 = .ok (.istore 5, 2) := by decide +kernel
theorem dX8_lend_109 : decode cX8_lend 109 = .ok (.aload_n 0, 1) := by decide +kernel
theorem dX8_lend_110 : decode cX8_lend 110 = .ok (.getfield 28, 3) := by decide +kernel
theorem dX8_lend_113 : decode cX8_lend 113 = .ok (.iload 4, 2) := by decide +kernel
theorem dX8_lend_115 : decode cX8_lend 115 = .ok (.iload_n 1, 1) := by decide +kernel
theorem dX8_lend_116 : decode cX8_lend 116 = .ok (.invokevirtual 117, 3) := by decide +kernel
theorem dX8_lend_119 : decode cX8_lend 119 = .ok (.ifCond .eq 40, 3) := by decide +kernel
theorem dX8_lend_122 : decode cX8_lend 122 = .ok (.aload_n 0, 1) := by decide +kernel
theorem dX8_lend_123 : decode cX8_lend 123 = .ok (.getfield 15, 3) := by decide +kernel
theorem dX8_lend_126 : decode cX8_lend 126 = .ok (.iload 5, 2) := by decide +kernel
theorem dX8_lend_128 : decode cX8_lend 128 = .ok (.daload, 1) := by decide +kernel
theorem dX8_lend_129 : decode cX8_lend 129 = .ok (.dconst 0, 1) := by decide +kernel
theorem dX8_lend_130 : decode cX8_lend 130 = .ok (.dcmp .g, 1) := by decide +kernel
theorem dX8_lend_131 : decode cX8_lend 131 = .ok (.ifCond .ge 28, 3) := by decide +kernel
theorem dX8_lend_134 : decode cX8_lend 134 = .ok (.aload_n 0, 1) := by decide +kernel
theorem dX8_lend_135 : decode cX8_lend 135 = .ok (.getfield 15, 3) := by decide +kernel
theorem dX8_lend_138 : decode cX8_lend 138 = .ok (.iload 5, 2) := by decide +kernel
theorem dX8_lend_140 : decode cX8_lend 140 = .ok (.aload_n 0, 1) := by decide +kernel
theorem dX8_lend_141 : decode cX8_lend 141 = .ok (.getfield 15, 3) := by decide +kernel
theorem dX8_lend_144 : decode cX8_lend 144 = .ok (.iload 5, 2) := by decide +kernel
theorem dX8_lend_146 : decode cX8_lend 146 = .ok (.daload, 1) := by decide +kernel
theorem dX8_lend_147 : decode cX8_lend 147 = .ok (.aload_n 0, 1) := by decide +kernel
theorem dX8_lend_148 : decode cX8_lend 148 = .ok (.getfield 21, 3) := by decide +kernel
theorem dX8_lend_151 : decode cX8_lend 151 = .ok (.iload_n 1, 1) := by decide +kernel
theorem dX8_lend_152 : decode cX8_lend 152 = .ok (.daload, 1) := by decide +kernel
theorem dX8_lend_153 : decode cX8_lend 153 = .ok (.dadd, 1) := by decide +kernel
theorem dX8_lend_154 : decode cX8_lend 154 = .ok (.dconst 0, 1) := by decide +kernel
theorem dX8_lend_155 : decode cX8_lend 155 = .ok (.invokestatic 135, 3) := by decide +kernel
theorem dX8_lend_158 : decode cX8_lend 158 = .ok (.dastore, 1) := by decide +kernel
theorem dX8_lend_159 : decode cX8_lend 159 = .ok (.iinc 4 1, 3) := by decide +kernel
theorem dX8_lend_162 : decode cX8_lend 162 = .ok (.goto (-74), 3) := by decide +kernel
theorem dX8_lend_165 : decode cX8_lend 165 = .ok (.return_, 1) := by decide +kernel
theorem dX8_arrivalOf_0 : decode cX8_arrivalOf 0 = .ok (.aload_n 0, 1) := by decide +kernel
theorem dX8_arrivalOf_1 : decode cX8_arrivalOf 1 = .ok (.getfield 28, 3) := by decide +kernel
theorem dX8_arrivalOf_4 : decode cX8_arrivalOf 4 = .ok (.iload_n 1, 1) := by decide +kernel
theorem dX8_arrivalOf_5 : decode cX8_arrivalOf 5 = .ok (.iload_n 2, 1) := by decide +kernel
theorem dX8_arrivalOf_6 : decode cX8_arrivalOf 6 = .ok (.invokevirtual 94, 3) := by decide +kernel
theorem dX8_arrivalOf_9 : decode cX8_arrivalOf 9 = .ok (.ifCond .eq 21, 3) := by decide +kernel
theorem dX8_arrivalOf_12 : decode cX8_arrivalOf 12 = .ok (.aload_n 0, 1) := by decide +kernel
theorem dX8_arrivalOf_13 : decode cX8_arrivalOf 13 = .ok (.getfield 9, 3) := by decide +kernel
theorem dX8_arrivalOf_16 : decode cX8_arrivalOf 16 = .ok (.iload_n 1, 1) := by decide +kernel
theorem dX8_arrivalOf_17 : decode cX8_arrivalOf 17 = .ok (.bipush 32, 2) := by decide +kernel
theorem dX8_arrivalOf_19 : decode cX8_arrivalOf 19 = .ok (.imul, 1) := by decide +kernel
theorem dX8_arrivalOf_20 : decode cX8_arrivalOf 20 = .ok (.iload_n 2, 1) := by decide +kernel
theorem dX8_arrivalOf_21 : decode cX8_arrivalOf 21 = .ok (.iconst 2, 1) := by decide +kernel
theorem dX8_arrivalOf_22 : decode cX8_arrivalOf 22 = .ok (.imul, 1) := by decide +kernel
theorem dX8_arrivalOf_23 : decode cX8_arrivalOf 23 = .ok (.iadd, 1) := by decide +kernel
theorem dX8_arrivalOf_24 : decode cX8_arrivalOf 24 = .ok (.iload_n 3, 1) := by decide +kernel
theorem dX8_arrivalOf_25 : decode cX8_arrivalOf 25 = .ok (.iadd, 1) := by decide +kernel
theorem dX8_arrivalOf_26 : decode cX8_arrivalOf 26 = .ok (.daload, 1) := by decide +kernel
theorem dX8_arrivalOf_27 : decode cX8_arrivalOf 27 = .ok (.goto 6, 3) := by decide +kernel
theorem dX8_arrivalOf_30 : decode cX8_arrivalOf 30 = .ok (.ldc2_w 175, 3) := by decide +kernel
theorem dX8_arrivalOf_33 : decode cX8_arrivalOf 33 = .ok (.dreturn, 1) := by decide +kernel
theorem dX8_leftOf_0 : decode cX8_leftOf 0 = .ok (.aload_n 0, 1) := by decide +kernel
theorem dX8_leftOf_1 : decode cX8_leftOf 1 = .ok (.getfield 28, 3) := by decide +kernel
theorem dX8_leftOf_4 : decode cX8_leftOf 4 = .ok (.iload_n 1, 1) := by decide +kernel
theorem dX8_leftOf_5 : decode cX8_leftOf 5 = .ok (.iload_n 2, 1) := by decide +kernel
theorem dX8_leftOf_6 : decode cX8_leftOf 6 = .ok (.invokevirtual 117, 3) := by decide +kernel
theorem dX8_leftOf_9 : decode cX8_leftOf 9 = .ok (.ifCond .eq 17, 3) := by decide +kernel
theorem dX8_leftOf_12 : decode cX8_leftOf 12 = .ok (.aload_n 0, 1) := by decide +kernel
theorem dX8_leftOf_13 : decode cX8_leftOf 13 = .ok (.getfield 15, 3) := by decide +kernel
theorem dX8_leftOf_16 : decode cX8_leftOf 16 = .ok (.iload_n 1, 1) := by decide +kernel
theorem dX8_leftOf_17 : decode cX8_leftOf 17 = .ok (.bipush 16, 2) := by decide +kernel
theorem dX8_leftOf_19 : decode cX8_leftOf 19 = .ok (.imul, 1) := by decide +kernel
theorem dX8_leftOf_20 : decode cX8_leftOf 20 = .ok (.iload_n 2, 1) := by decide +kernel
theorem dX8_leftOf_21 : decode cX8_leftOf 21 = .ok (.iadd, 1) := by decide +kernel
theorem dX8_leftOf_22 : decode cX8_leftOf 22 = .ok (.daload, 1) := by decide +kernel
theorem dX8_leftOf_23 : decode cX8_leftOf 23 = .ok (.goto 6, 3) := by decide +kernel
theorem dX8_leftOf_26 : decode cX8_leftOf 26 = .ok (.ldc2_w 130, 3) := by decide +kernel
theorem dX8_leftOf_29 : decode cX8_leftOf 29 = .ok (.dreturn, 1) := by decide +kernel
theorem dX8_leastAt_0 : decode cX8_leastAt 0 = .ok (.aload_n 0, 1) := by decide +kernel
theorem dX8_leastAt_1 : decode cX8_leastAt 1 = .ok (.getfield 18, 3) := by decide +kernel
theorem dX8_leastAt_4 : decode cX8_leastAt 4 = .ok (.iload_n 1, 1) := by decide +kernel
theorem dX8_leastAt_5 : decode cX8_leastAt 5 = .ok (.daload, 1) := by decide +kernel
theorem dX8_leastAt_6 : decode cX8_leastAt 6 = .ok (.dreturn, 1) := by decide +kernel
theorem dX8_leastOfEnds_0 : decode cX8_leastOfEnds 0 = .ok (.ldc2_w 130, 3) := by decide +kernel
theorem dX8_leastOfEnds_3 : decode cX8_leastOfEnds 3 = .ok (.dstore_n 1, 1) := by decide +kernel
theorem dX8_leastOfEnds_4 : decode cX8_leastOfEnds 4 = .ok (.iconst 0, 1) := by decide +kernel
theorem dX8_leastOfEnds_5 : decode cX8_leastOfEnds 5 = .ok (.istore_n 3, 1) := by decide +kernel
theorem dX8_leastOfEnds_6 : decode cX8_leastOfEnds 6 = .ok (.iload_n 3, 1) := by decide +kernel
theorem dX8_leastOfEnds_7 : decode cX8_leastOfEnds 7 = .ok (.aload_n 0, 1) := by decide +kernel
theorem dX8_leastOfEnds_8 : decode cX8_leastOfEnds 8 = .ok (.getfield 24, 3) := by decide +kernel
theorem dX8_leastOfEnds_11 : decode cX8_leastOfEnds 11 = .ok (.getfield 40, 3) := by decide +kernel
theorem dX8_leastOfEnds_14 : decode cX8_leastOfEnds 14 = .ok (.if_icmp .ge 31, 3) := by decide +kernel
theorem dX8_leastOfEnds_17 : decode cX8_leastOfEnds 17 = .ok (.aload_n 0, 1) := by decide +kernel
theorem dX8_leastOfEnds_18 : decode cX8_leastOfEnds 18 = .ok (.getfield 28, 3) := by decide +kernel
theorem dX8_leastOfEnds_21 : decode cX8_leastOfEnds 21 = .ok (.iload_n 3, 1) := by decide +kernel
theorem dX8_leastOfEnds_22 : decode cX8_leastOfEnds 22 = .ok (.invokevirtual 177, 3) := by decide +kernel
theorem dX8_leastOfEnds_25 : decode cX8_leastOfEnds 25 = .ok (.ifCond .eq 14, 3) := by decide +kernel
theorem dX8_leastOfEnds_28 : decode cX8_leastOfEnds 28 = .ok (.dload_n 1, 1) := by decide +kernel
theorem dX8_leastOfEnds_29 : decode cX8_leastOfEnds 29 = .ok (.aload_n 0, 1) := by decide +kernel
theorem dX8_leastOfEnds_30 : decode cX8_leastOfEnds 30 = .ok (.getfield 18, 3) := by decide +kernel
theorem dX8_leastOfEnds_33 : decode cX8_leastOfEnds 33 = .ok (.iload_n 3, 1) := by decide +kernel
theorem dX8_leastOfEnds_34 : decode cX8_leastOfEnds 34 = .ok (.daload, 1) := by decide +kernel
theorem dX8_leastOfEnds_35 : decode cX8_leastOfEnds 35 = .ok (.invokestatic 135, 3) := by decide +kernel
theorem dX8_leastOfEnds_38 : decode cX8_leastOfEnds 38 = .ok (.dstore_n 1, 1) := by decide +kernel
theorem dX8_leastOfEnds_39 : decode cX8_leastOfEnds 39 = .ok (.iinc 3 1, 3) := by decide +kernel
theorem dX8_leastOfEnds_42 : decode cX8_leastOfEnds 42 = .ok (.goto (-36), 3) := by decide +kernel
theorem dX8_leastOfEnds_45 : decode cX8_leastOfEnds 45 = .ok (.dload_n 1, 1) := by decide +kernel
theorem dX8_leastOfEnds_46 : decode cX8_leastOfEnds 46 = .ok (.dreturn, 1) := by decide +kernel
theorem dX8_worstWay_0 : decode cX8_worstWay 0 = .ok (.aload_n 0, 1) := by decide +kernel
theorem dX8_worstWay_1 : decode cX8_worstWay 1 = .ok (.iload_n 1, 1) := by decide +kernel
theorem dX8_worstWay_2 : decode cX8_worstWay 2 = .ok (.invokevirtual 181, 3) := by decide +kernel
theorem dX8_worstWay_5 : decode cX8_worstWay 5 = .ok (.istore_n 3, 1) := by decide +kernel
theorem dX8_worstWay_6 : decode cX8_worstWay 6 = .ok (.aload_n 0, 1) := by decide +kernel
theorem dX8_worstWay_7 : decode cX8_worstWay 7 = .ok (.getfield 24, 3) := by decide +kernel
theorem dX8_worstWay_10 : decode cX8_worstWay 10 = .ok (.getfield 46, 3) := by decide +kernel
theorem dX8_worstWay_13 : decode cX8_worstWay 13 = .ok (.iload_n 1, 1) := by decide +kernel
theorem dX8_worstWay_14 : decode cX8_worstWay 14 = .ok (.aaload, 1) := by decide +kernel
theorem dX8_worstWay_15 : decode cX8_worstWay 15 = .ok (.getfield 104, 3) := by decide +kernel
theorem dX8_worstWay_18 : decode cX8_worstWay 18 = .ok (.istore 4, 2) := by decide +kernel
theorem dX8_worstWay_20 : decode cX8_worstWay 20 = .ok (.iload_n 3, 1) := by decide +kernel
theorem dX8_worstWay_21 : decode cX8_worstWay 21 = .ok (.iconst (-1), 1) := by decide +kernel
theorem dX8_worstWay_22 : decode cX8_worstWay 22 = .ok (.if_icmp .eq 9, 3) := by decide +kernel
theorem dX8_worstWay_25 : decode cX8_worstWay 25 = .ok (.iload 4, 2) := by decide +kernel
theorem dX8_worstWay_27 : decode cX8_worstWay 27 = .ok (.iconst (-1), 1) := by decide +kernel
theorem dX8_worstWay_28 : decode cX8_worstWay 28 = .ok (.if_icmp .ne 5, 3) := by decide +kernel
theorem dX8_worstWay_31 : decode cX8_worstWay 31 = .ok (.iconst (-1), 1) := by decide +kernel
theorem dX8_worstWay_32 : decode cX8_worstWay 32 = .ok (.ireturn, 1) := by decide +kernel
theorem dX8_worstWay_33 : decode cX8_worstWay 33 = .ok (.aload_n 0, 1) := by decide +kernel
theorem dX8_worstWay_34 : decode cX8_worstWay 34 = .ok (.iload_n 3, 1) := by decide +kernel
theorem dX8_worstWay_35 : decode cX8_worstWay 35 = .ok (.iload 4, 2) := by decide +kernel
theorem dX8_worstWay_37 : decode cX8_worstWay 37 = .ok (.iconst 1, 1) := by decide +kernel
theorem dX8_worstWay_38 : decode cX8_worstWay 38 = .ok (.invokevirtual 185, 3) := by decide +kernel
theorem dX8_worstWay_41 : decode cX8_worstWay 41 = .ok (.aload_n 0, 1) := by decide +kernel
theorem dX8_worstWay_42 : decode cX8_worstWay 42 = .ok (.iload_n 3, 1) := by decide +kernel
theorem dX8_worstWay_43 : decode cX8_worstWay 43 = .ok (.iload 4, 2) := by decide +kernel
theorem dX8_worstWay_45 : decode cX8_worstWay 45 = .ok (.iconst 0, 1) := by decide +kernel
theorem dX8_worstWay_46 : decode cX8_worstWay 46 = .ok (.invokevirtual 185, 3) := by decide +kernel
theorem dX8_worstWay_49 : decode cX8_worstWay 49 = .ok (.dcmp .l, 1) := by decide +kernel
theorem dX8_worstWay_50 : decode cX8_worstWay 50 = .ok (.ifCond .le 7, 3) := by decide +kernel
theorem dX8_worstWay_53 : decode cX8_worstWay 53 = .ok (.iconst 1, 1) := by decide +kernel
theorem dX8_worstWay_54 : decode cX8_worstWay 54 = .ok (.goto 4, 3) := by decide +kernel
theorem dX8_worstWay_57 : decode cX8_worstWay 57 = .ok (.iconst 0, 1) := by decide +kernel
theorem dX8_worstWay_58 : decode cX8_worstWay 58 = .ok (.istore 5, 2) := by decide +kernel
theorem dX8_worstWay_60 : decode cX8_worstWay 60 = .ok (.iload 4, 2) := by decide +kernel
theorem dX8_worstWay_62 : decode cX8_worstWay 62 = .ok (.iconst 2, 1) := by decide +kernel
theorem dX8_worstWay_63 : decode cX8_worstWay 63 = .ok (.imul, 1) := by decide +kernel
theorem dX8_worstWay_64 : decode cX8_worstWay 64 = .ok (.iload 5, 2) := by decide +kernel
theorem dX8_worstWay_66 : decode cX8_worstWay 66 = .ok (.ifCond .eq 7, 3) := by decide +kernel
theorem dX8_worstWay_69 : decode cX8_worstWay 69 = .ok (.iconst 1, 1) := by decide +kernel
theorem dX8_worstWay_70 : decode cX8_worstWay 70 = .ok (.goto 4, 3) := by decide +kernel
theorem dX8_worstWay_73 : decode cX8_worstWay 73 = .ok (.iconst 0, 1) := by decide +kernel
theorem dX8_worstWay_74 : decode cX8_worstWay 74 = .ok (.iadd, 1) := by decide +kernel
theorem dX8_worstWay_75 : decode cX8_worstWay 75 = .ok (.istore 6, 2) := by decide +kernel
theorem dX8_worstWay_77 : decode cX8_worstWay 77 = .ok (.iconst 0, 1) := by decide +kernel
theorem dX8_worstWay_78 : decode cX8_worstWay 78 = .ok (.istore 7, 2) := by decide +kernel
theorem dX8_worstWay_80 : decode cX8_worstWay 80 = .ok (.iload 7, 2) := by decide +kernel
theorem dX8_worstWay_82 : decode cX8_worstWay 82 = .ok (.iload_n 2, 1) := by decide +kernel
theorem dX8_worstWay_83 : decode cX8_worstWay 83 = .ok (.if_icmp .ge 36, 3) := by decide +kernel
theorem dX8_worstWay_86 : decode cX8_worstWay 86 = .ok (.iload 6, 2) := by decide +kernel
theorem dX8_worstWay_88 : decode cX8_worstWay 88 = .ok (.iconst (-1), 1) := by decide +kernel
theorem dX8_worstWay_89 : decode cX8_worstWay 89 = .ok (.if_icmp .eq 30, 3) := by decide +kernel
theorem dX8_worstWay_92 : decode cX8_worstWay 92 = .ok (.iload 6, 2) := by decide +kernel
theorem dX8_worstWay_94 : decode cX8_worstWay 94 = .ok (.iconst 2, 1) := by decide +kernel
theorem dX8_worstWay_95 : decode cX8_worstWay 95 = .ok (.idiv, 1) := by decide +kernel
theorem dX8_worstWay_96 : decode cX8_worstWay 96 = .ok (.iload_n 3, 1) := by decide +kernel
theorem dX8_worstWay_97 : decode cX8_worstWay 97 = .ok (.if_icmp .ne 7, 3) := by decide +kernel
theorem dX8_worstWay_100 : decode cX8_worstWay 100 = .ok (.iconst (-1), 1) := by decide +kernel
theorem dX8_worstWay_101 : decode cX8_worstWay 101 = .ok (.goto 10, 3) := by decide +kernel
theorem dX8_worstWay_104 : decode cX8_worstWay 104 = .ok (.aload_n 0, 1) := by decide +kernel
theorem dX8_worstWay_105 : decode cX8_worstWay 105 = .ok (.iload_n 3, 1) := by decide +kernel
theorem dX8_worstWay_106 : decode cX8_worstWay 106 = .ok (.iload 6, 2) := by decide +kernel
theorem dX8_worstWay_108 : decode cX8_worstWay 108 = .ok (.invokevirtual 100, 3) := by decide +kernel
theorem dX8_worstWay_111 : decode cX8_worstWay 111 = .ok (.istore 6, 2) := by decide +kernel
theorem dX8_worstWay_113 : decode cX8_worstWay 113 = .ok (.iinc 7 1, 3) := by decide +kernel
theorem dX8_worstWay_116 : decode cX8_worstWay 116 = .ok (.goto (-36), 3) := by decide +kernel
theorem dX8_worstWay_119 : decode cX8_worstWay 119 = .ok (.iload 6, 2) := by decide +kernel
theorem dX8_worstWay_121 : decode cX8_worstWay 121 = .ok (.iconst (-1), 1) := by decide +kernel
theorem dX8_worstWay_122 : decode cX8_worstWay 122 = .ok (.if_icmp .ne 7, 3) := by decide +kernel
theorem dX8_worstWay_125 : decode cX8_worstWay 125 = .ok (.iconst (-1), 1) := by decide +kernel
theorem dX8_worstWay_126 : decode cX8_worstWay 126 = .ok (.goto 7, 3) := by decide +kernel
theorem dX8_worstWay_129 : decode cX8_worstWay 129 = .ok (.iload 6, 2) := by decide +kernel
theorem dX8_worstWay_131 : decode cX8_worstWay 131 = .ok (.iconst 2, 1) := by decide +kernel
theorem dX8_worstWay_132 : decode cX8_worstWay 132 = .ok (.idiv, 1) := by decide +kernel
theorem dX8_worstWay_133 : decode cX8_worstWay 133 = .ok (.ireturn, 1) := by decide +kernel
theorem dX8_worstStart_0 : decode cX8_worstStart 0 = .ok (.iconst (-1), 1) := by decide +kernel
theorem dX8_worstStart_1 : decode cX8_worstStart 1 = .ok (.istore_n 2, 1) := by decide +kernel
theorem dX8_worstStart_2 : decode cX8_worstStart 2 = .ok (.iconst 0, 1) := by decide +kernel
theorem dX8_worstStart_3 : decode cX8_worstStart 3 = .ok (.istore_n 3, 1) := by decide +kernel
theorem dX8_worstStart_4 : decode cX8_worstStart 4 = .ok (.iload_n 3, 1) := by decide +kernel
theorem dX8_worstStart_5 : decode cX8_worstStart 5 = .ok (.aload_n 0, 1) := by decide +kernel
theorem dX8_worstStart_6 : decode cX8_worstStart 6 = .ok (.getfield 24, 3) := by decide +kernel
theorem dX8_worstStart_9 : decode cX8_worstStart 9 = .ok (.getfield 40, 3) := by decide +kernel
theorem dX8_worstStart_12 : decode cX8_worstStart 12 = .ok (.if_icmp .ge 44, 3) := by decide +kernel
theorem dX8_worstStart_15 : decode cX8_worstStart 15 = .ok (.aload_n 0, 1) := by decide +kernel
theorem dX8_worstStart_16 : decode cX8_worstStart 16 = .ok (.getfield 28, 3) := by decide +kernel
theorem dX8_worstStart_19 : decode cX8_worstStart 19 = .ok (.iload_n 3, 1) := by decide +kernel
theorem dX8_worstStart_20 : decode cX8_worstStart 20 = .ok (.iload_n 1, 1) := by decide +kernel
theorem dX8_worstStart_21 : decode cX8_worstStart 21 = .ok (.invokevirtual 117, 3) := by decide +kernel
theorem dX8_worstStart_24 : decode cX8_worstStart 24 = .ok (.ifCond .eq 26, 3) := by decide +kernel
theorem dX8_worstStart_27 : decode cX8_worstStart 27 = .ok (.iload_n 2, 1) := by decide +kernel
theorem dX8_worstStart_28 : decode cX8_worstStart 28 = .ok (.iconst (-1), 1) := by decide +kernel
theorem dX8_worstStart_29 : decode cX8_worstStart 29 = .ok (.if_icmp .eq 19, 3) := by decide +kernel
theorem dX8_worstStart_32 : decode cX8_worstStart 32 = .ok (.aload_n 0, 1) := by decide +kernel
theorem dX8_worstStart_33 : decode cX8_worstStart 33 = .ok (.iload_n 3, 1) := by decide +kernel
theorem dX8_worstStart_34 : decode cX8_worstStart 34 = .ok (.iload_n 1, 1) := by decide +kernel
theorem dX8_worstStart_35 : decode cX8_worstStart 35 = .ok (.invokevirtual 132, 3) := by decide +kernel
theorem dX8_worstStart_38 : decode cX8_worstStart 38 = .ok (.aload_n 0, 1) := by decide +kernel
theorem dX8_worstStart_39 : decode cX8_worstStart 39 = .ok (.iload_n 2, 1) := by decide +kernel
theorem dX8_worstStart_40 : decode cX8_worstStart 40 = .ok (.iload_n 1, 1) := by decide +kernel
theorem dX8_worstStart_41 : decode cX8_worstStart 41 = .ok (.invokevirtual 132, 3) := by decide +kernel
theorem dX8_worstStart_44 : decode cX8_worstStart 44 = .ok (.dcmp .g, 1) := by decide +kernel
theorem dX8_worstStart_45 : decode cX8_worstStart 45 = .ok (.ifCond .ge 5, 3) := by decide +kernel
theorem dX8_worstStart_48 : decode cX8_worstStart 48 = .ok (.iload_n 3, 1) := by decide +kernel
theorem dX8_worstStart_49 : decode cX8_worstStart 49 = .ok (.istore_n 2, 1) := by decide +kernel
theorem dX8_worstStart_50 : decode cX8_worstStart 50 = .ok (.iinc 3 1, 3) := by decide +kernel
theorem dX8_worstStart_53 : decode cX8_worstStart 53 = .ok (.goto (-49), 3) := by decide +kernel
theorem dX8_worstStart_56 : decode cX8_worstStart 56 = .ok (.iload_n 2, 1) := by decide +kernel
theorem dX8_worstStart_57 : decode cX8_worstStart 57 = .ok (.ireturn, 1) := by decide +kernel
theorem dX9_init_0 : decode cX9_init 0 = .ok (.aload_n 0, 1) := by decide +kernel
theorem dX9_init_1 : decode cX9_init 1 = .ok (.invokespecial 3, 3) := by decide +kernel
theorem dX9_init_4 : decode cX9_init 4 = .ok (.aload_n 0, 1) := by decide +kernel
theorem dX9_init_5 : decode cX9_init 5 = .ok (.new 9, 3) := by decide +kernel
theorem dX9_init_8 : decode cX9_init 8 = .ok (.dup, 1) := by decide +kernel
theorem dX9_init_9 : decode cX9_init 9 = .ok (.invokespecial 11, 3) := by decide +kernel
theorem dX9_init_12 : decode cX9_init 12 = .ok (.putfield 12, 3) := by decide +kernel
theorem dX9_init_15 : decode cX9_init 15 = .ok (.aload_n 0, 1) := by decide +kernel
theorem dX9_init_16 : decode cX9_init 16 = .ok (.new 16, 3) := by decide +kernel
theorem dX9_init_19 : decode cX9_init 19 = .ok (.dup, 1) := by decide +kernel
theorem dX9_init_20 : decode cX9_init 20 = .ok (.aload_n 0, 1) := by decide +kernel
theorem dX9_init_21 : decode cX9_init 21 = .ok (.getfield 12, 3) := by decide +kernel
theorem dX9_init_24 : decode cX9_init 24 = .ok (.invokespecial 18, 3) := by decide +kernel
theorem dX9_init_27 : decode cX9_init 27 = .ok (.putfield 21, 3) := by decide +kernel
theorem dX9_init_30 : decode cX9_init 30 = .ok (.return_, 1) := by decide +kernel
theorem dX9_clock_0 : decode cX9_clock 0 = .ok (.aload_n 0, 1) := by decide +kernel
theorem dX9_clock_1 : decode cX9_clock 1 = .ok (.aload_n 0, 1) := by decide +kernel
theorem dX9_clock_2 : decode cX9_clock 2 = .ok (.getfield 12, 3) := by decide +kernel
theorem dX9_clock_5 : decode cX9_clock 5 = .ok (.getfield 25, 3) := by decide +kernel
theorem dX9_clock_8 : decode cX9_clock 8 = .ok (.iconst 4, 1) := by decide +kernel
theorem dX9_clock_9 : decode cX9_clock 9 = .ok (.if_icmp .ge 7, 3) := by decide +kernel
theorem dX9_clock_12 : decode cX9_clock 12 = .ok (.iconst 1, 1) := by decide +kernel
theorem dX9_clock_13 : decode cX9_clock 13 = .ok (.goto 4, 3) := by decide +kernel
theorem dX9_clock_16 : decode cX9_clock 16 = .ok (.iconst 0, 1) := by decide +kernel
theorem dX9_clock_17 : decode cX9_clock 17 = .ok (.invokevirtual 29, 3) := by decide +kernel
theorem dX9_clock_20 : decode cX9_clock 20 = .ok (.iload_n 1, 1) := by decide +kernel
theorem dX9_clock_21 : decode cX9_clock 21 = .ok (.iconst 4, 1) := by decide +kernel
theorem dX9_clock_22 : decode cX9_clock 22 = .ok (.bipush 40, 2) := by decide +kernel
theorem dX9_clock_24 : decode cX9_clock 24 = .ok (.invokestatic 33, 3) := by decide +kernel
theorem dX9_clock_27 : decode cX9_clock 27 = .ok (.ifCond .eq 37, 3) := by decide +kernel
theorem dX9_clock_30 : decode cX9_clock 30 = .ok (.iload_n 2, 1) := by decide +kernel
theorem dX9_clock_31 : decode cX9_clock 31 = .ok (.iconst 0, 1) := by decide +kernel
theorem dX9_clock_32 : decode cX9_clock 32 = .ok (.bipush 40, 2) := by decide +kernel
theorem dX9_clock_34 : decode cX9_clock 34 = .ok (.invokestatic 33, 3) := by decide +kernel
theorem dX9_clock_37 : decode cX9_clock 37 = .ok (.ifCond .eq 27, 3) := by decide +kernel
theorem dX9_clock_40 : decode cX9_clock 40 = .ok (.iload_n 3, 1) := by decide +kernel
theorem dX9_clock_41 : decode cX9_clock 41 = .ok (.iconst 0, 1) := by decide +kernel
theorem dX9_clock_42 : decode cX9_clock 42 = .ok (.bipush 20, 2) := by decide +kernel
theorem dX9_clock_44 : decode cX9_clock 44 = .ok (.invokestatic 33, 3) := by decide +kernel
theorem dX9_clock_47 : decode cX9_clock 47 = .ok (.ifCond .eq 17, 3) := by decide +kernel
theorem dX9_clock_50 : decode cX9_clock 50 = .ok (.iload 4, 2) := by decide +kernel
theorem dX9_clock_52 : decode cX9_clock 52 = .ok (.iconst 0, 1) := by decide +kernel
theorem dX9_clock_53 : decode cX9_clock 53 = .ok (.iconst 1, 1) := by decide +kernel
theorem dX9_clock_54 : decode cX9_clock 54 = .ok (.invokestatic 33, 3) := by decide +kernel
theorem dX9_clock_57 : decode cX9_clock 57 = .ok (.ifCond .eq 7, 3) := by decide +kernel
theorem dX9_clock_60 : decode cX9_clock 60 = .ok (.iconst 1, 1) := by decide +kernel
theorem dX9_clock_61 : decode cX9_clock 61 = .ok (.goto 4, 3) := by decide +kernel
theorem dX9_clock_64 : decode cX9_clock 64 = .ok (.iconst 0, 1) := by decide +kernel
theorem dX9_clock_65 : decode cX9_clock 65 = .ok (.invokestatic 37, 3) := by decide +kernel
theorem dX9_clock_68 : decode cX9_clock 68 = .ok (.aload_n 0, 1) := by decide +kernel
theorem dX9_clock_69 : decode cX9_clock 69 = .ok (.getfield 21, 3) := by decide +kernel
theorem dX9_clock_72 : decode cX9_clock 72 = .ok (.invokevirtual 40, 3) := by decide +kernel
theorem dX9_clock_75 : decode cX9_clock 75 = .ok (.aload_n 0, 1) := by decide +kernel
theorem dX9_clock_76 : decode cX9_clock 76 = .ok (.getfield 12, 3) := by decide +kernel
theorem dX9_clock_79 : decode cX9_clock 79 = .ok (.iload_n 1, 1) := by decide +kernel
theorem dX9_clock_80 : decode cX9_clock 80 = .ok (.iload_n 2, 1) := by decide +kernel
theorem dX9_clock_81 : decode cX9_clock 81 = .ok (.iload_n 3, 1) := by decide +kernel
theorem dX9_clock_82 : decode cX9_clock 82 = .ok (.iload 4, 2) := by decide +kernel
theorem dX9_clock_84 : decode cX9_clock 84 = .ok (.aload_n 0, 1) := by decide +kernel
theorem dX9_clock_85 : decode cX9_clock 85 = .ok (.getfield 12, 3) := by decide +kernel
theorem dX9_clock_88 : decode cX9_clock 88 = .ok (.getfield 25, 3) := by decide +kernel
theorem dX9_clock_91 : decode cX9_clock 91 = .ok (.invokevirtual 43, 3) := by decide +kernel
theorem dX9_clock_94 : decode cX9_clock 94 = .ok (.ireturn, 1) := by decide +kernel
theorem dX9_divide_0 : decode cX9_divide 0 = .ok (.aload_n 0, 1) := by decide +kernel
theorem dX9_divide_1 : decode cX9_divide 1 = .ok (.aload_n 0, 1) := by decide +kernel
theorem dX9_divide_2 : decode cX9_divide 2 = .ok (.getfield 12, 3) := by decide +kernel
theorem dX9_divide_5 : decode cX9_divide 5 = .ok (.getfield 25, 3) := by decide +kernel
theorem dX9_divide_8 : decode cX9_divide 8 = .ok (.iconst 4, 1) := by decide +kernel
theorem dX9_divide_9 : decode cX9_divide 9 = .ok (.if_icmp .ge 7, 3) := by decide +kernel
theorem dX9_divide_12 : decode cX9_divide 12 = .ok (.iconst 1, 1) := by decide +kernel
theorem dX9_divide_13 : decode cX9_divide 13 = .ok (.goto 4, 3) := by decide +kernel
theorem dX9_divide_16 : decode cX9_divide 16 = .ok (.iconst 0, 1) := by decide +kernel
theorem dX9_divide_17 : decode cX9_divide 17 = .ok (.invokevirtual 29, 3) := by decide +kernel
theorem dX9_divide_20 : decode cX9_divide 20 = .ok (.aload_n 0, 1) := by decide +kernel
theorem dX9_divide_21 : decode cX9_divide 21 = .ok (.getfield 12, 3) := by decide +kernel
theorem dX9_divide_24 : decode cX9_divide 24 = .ok (.iload_n 1, 1) := by decide +kernel
theorem dX9_divide_25 : decode cX9_divide 25 = .ok (.invokevirtual 47, 3) := by decide +kernel
theorem dX9_divide_28 : decode cX9_divide 28 = .ok (.invokestatic 51, 3) := by decide +kernel
theorem dX9_divide_31 : decode cX9_divide 31 = .ok (.iload_n 2, 1) := by decide +kernel
theorem dX9_divide_32 : decode cX9_divide 32 = .ok (.iconst 2, 1) := by decide +kernel
theorem dX9_divide_33 : decode cX9_divide 33 = .ok (.iconst 4, 1) := by decide +kernel
theorem dX9_divide_34 : decode cX9_divide 34 = .ok (.invokestatic 33, 3) := by decide +kernel
theorem dX9_divide_37 : decode cX9_divide 37 = .ok (.ifCond .eq 17, 3) := by decide +kernel
theorem dX9_divide_40 : decode cX9_divide 40 = .ok (.iload_n 3, 1) := by decide +kernel
theorem dX9_divide_41 : decode cX9_divide 41 = .ok (.iconst 0, 1) := by decide +kernel
theorem dX9_divide_42 : decode cX9_divide 42 = .ok (.bipush 20, 2) := by decide +kernel
theorem dX9_divide_44 : decode cX9_divide 44 = .ok (.invokestatic 33, 3) := by decide +kernel
theorem dX9_divide_47 : decode cX9_divide 47 = .ok (.ifCond .eq 7, 3) := by decide +kernel
theorem dX9_divide_50 : decode cX9_divide 50 = .ok (.iconst 1, 1) := by decide +kernel
theorem dX9_divide_51 : decode cX9_divide 51 = .ok (.goto 4, 3) := by decide +kernel
theorem dX9_divide_54 : decode cX9_divide 54 = .ok (.iconst 0, 1) := by decide +kernel
theorem dX9_divide_55 : decode cX9_divide 55 = .ok (.invokestatic 37, 3) := by decide +kernel
theorem dX9_divide_58 : decode cX9_divide 58 = .ok (.aload_n 0, 1) := by decide +kernel
theorem dX9_divide_59 : decode cX9_divide 59 = .ok (.getfield 21, 3) := by decide +kernel
theorem dX9_divide_62 : decode cX9_divide 62 = .ok (.invokevirtual 40, 3) := by decide +kernel
theorem dX9_divide_65 : decode cX9_divide 65 = .ok (.aload_n 0, 1) := by decide +kernel
theorem dX9_divide_66 : decode cX9_divide 66 = .ok (.getfield 12, 3) := by decide +kernel
theorem dX9_divide_69 : decode cX9_divide 69 = .ok (.getfield 54, 3) := by decide +kernel
theorem dX9_divide_72 : decode cX9_divide 72 = .ok (.iload_n 1, 1) := by decide +kernel
theorem dX9_divide_73 : decode cX9_divide 73 = .ok (.aaload, 1) := by decide +kernel
theorem dX9_divide_74 : decode cX9_divide 74 = .ok (.astore 4, 2) := by decide +kernel
theorem dX9_divide_76 : decode cX9_divide 76 = .ok (.aload_n 0, 1) := by decide +kernel
theorem dX9_divide_77 : decode cX9_divide 77 = .ok (.getfield 12, 3) := by decide +kernel
theorem dX9_divide_80 : decode cX9_divide 80 = .ok (.aload 4, 2) := by decide +kernel
theorem dX9_divide_82 : decode cX9_divide 82 = .ok (.getfield 58, 3) := by decide +kernel
theorem dX9_divide_85 : decode cX9_divide 85 = .ok (.iload_n 2, 1) := by decide +kernel
theorem dX9_divide_86 : decode cX9_divide 86 = .ok (.imul, 1) := by decide +kernel
theorem dX9_divide_87 : decode cX9_divide 87 = .ok (.aload 4, 2) := by decide +kernel
theorem dX9_divide_89 : decode cX9_divide 89 = .ok (.getfield 63, 3) := by decide +kernel
theorem dX9_divide_92 : decode cX9_divide 92 = .ok (.iload_n 3, 1) := by decide +kernel
theorem dX9_divide_93 : decode cX9_divide 93 = .ok (.iadd, 1) := by decide +kernel
theorem dX9_divide_94 : decode cX9_divide 94 = .ok (.aload 4, 2) := by decide +kernel
theorem dX9_divide_96 : decode cX9_divide 96 = .ok (.getfield 66, 3) := by decide +kernel
theorem dX9_divide_99 : decode cX9_divide 99 = .ok (.aload 4, 2) := by decide +kernel
theorem dX9_divide_101 : decode cX9_divide 101 = .ok (.getfield 69, 3) := by decide +kernel
theorem dX9_divide_104 : decode cX9_divide 104 = .ok (.aload 4, 2) := by decide +kernel
theorem dX9_divide_106 : decode cX9_divide 106 = .ok (.getfield 72, 3) := by decide +kernel
theorem dX9_divide_109 : decode cX9_divide 109 = .ok (.invokevirtual 43, 3) := by decide +kernel
theorem dX9_divide_112 : decode cX9_divide 112 = .ok (.ireturn, 1) := by decide +kernel
theorem dX9_corner_0 : decode cX9_corner 0 = .ok (.aload_n 0, 1) := by decide +kernel
theorem dX9_corner_1 : decode cX9_corner 1 = .ok (.aload_n 0, 1) := by decide +kernel
theorem dX9_corner_2 : decode cX9_corner 2 = .ok (.getfield 12, 3) := by decide +kernel
theorem dX9_corner_5 : decode cX9_corner 5 = .ok (.getfield 75, 3) := by decide +kernel
theorem dX9_corner_8 : decode cX9_corner 8 = .ok (.iconst 3, 1) := by decide +kernel
theorem dX9_corner_9 : decode cX9_corner 9 = .ok (.if_icmp .ge 7, 3) := by decide +kernel
theorem dX9_corner_12 : decode cX9_corner 12 = .ok (.iconst 1, 1) := by decide +kernel
theorem dX9_corner_13 : decode cX9_corner 13 = .ok (.goto 4, 3) := by decide +kernel
theorem dX9_corner_16 : decode cX9_corner 16 = .ok (.iconst 0, 1) := by decide +kernel
theorem dX9_corner_17 : decode cX9_corner 17 = .ok (.invokevirtual 29, 3) := by decide +kernel
theorem dX9_corner_20 : decode cX9_corner 20 = .ok (.iload_n 1, 1) := by decide +kernel
theorem dX9_corner_21 : decode cX9_corner 21 = .ok (.bipush 8, 2) := by decide +kernel
theorem dX9_corner_23 : decode cX9_corner 23 = .ok (.bipush 16, 2) := by decide +kernel
theorem dX9_corner_25 : decode cX9_corner 25 = .ok (.invokestatic 33, 3) := by decide +kernel
theorem dX9_corner_28 : decode cX9_corner 28 = .ok (.ifCond .eq 17, 3) := by decide +kernel
theorem dX9_corner_31 : decode cX9_corner 31 = .ok (.iload_n 2, 1) := by decide +kernel
theorem dX9_corner_32 : decode cX9_corner 32 = .ok (.iconst 1, 1) := by decide +kernel
theorem dX9_corner_33 : decode cX9_corner 33 = .ok (.bipush 8, 2) := by decide +kernel
theorem dX9_corner_35 : decode cX9_corner 35 = .ok (.invokestatic 33, 3) := by decide +kernel
theorem dX9_corner_38 : decode cX9_corner 38 = .ok (.ifCond .eq 7, 3) := by decide +kernel
theorem dX9_corner_41 : decode cX9_corner 41 = .ok (.iconst 1, 1) := by decide +kernel
theorem dX9_corner_42 : decode cX9_corner 42 = .ok (.goto 4, 3) := by decide +kernel
theorem dX9_corner_45 : decode cX9_corner 45 = .ok (.iconst 0, 1) := by decide +kernel
theorem dX9_corner_46 : decode cX9_corner 46 = .ok (.invokestatic 37, 3) := by decide +kernel
theorem dX9_corner_49 : decode cX9_corner 49 = .ok (.aload_n 0, 1) := by decide +kernel
theorem dX9_corner_50 : decode cX9_corner 50 = .ok (.getfield 21, 3) := by decide +kernel
theorem dX9_corner_53 : decode cX9_corner 53 = .ok (.invokevirtual 40, 3) := by decide +kernel
theorem dX9_corner_56 : decode cX9_corner 56 = .ok (.aload_n 0, 1) := by decide +kernel
theorem dX9_corner_57 : decode cX9_corner 57 = .ok (.getfield 12, 3) := by decide +kernel
theorem dX9_corner_60 : decode cX9_corner 60 = .ok (.iload_n 1, 1) := by decide +kernel
theorem dX9_corner_61 : decode cX9_corner 61 = .ok (.iload_n 2, 1) := by decide +kernel
theorem dX9_corner_62 : decode cX9_corner 62 = .ok (.invokevirtual 78, 3) := by decide +kernel
theorem dX9_corner_65 : decode cX9_corner 65 = .ok (.ireturn, 1) := by decide +kernel
theorem dX9_node_0 : decode cX9_node 0 = .ok (.aload_n 0, 1) := by decide +kernel
theorem dX9_node_1 : decode cX9_node 1 = .ok (.aload_n 0, 1) := by decide +kernel
theorem dX9_node_2 : decode cX9_node 2 = .ok (.getfield 12, 3) := by decide +kernel
theorem dX9_node_5 : decode cX9_node 5 = .ok (.getfield 82, 3) := by decide +kernel
theorem dX9_node_8 : decode cX9_node 8 = .ok (.bipush 16, 2) := by decide +kernel
theorem dX9_node_10 : decode cX9_node 10 = .ok (.if_icmp .ge 7, 3) := by decide +kernel
theorem dX9_node_13 : decode cX9_node 13 = .ok (.iconst 1, 1) := by decide +kernel
theorem dX9_node_14 : decode cX9_node 14 = .ok (.goto 4, 3) := by decide +kernel
theorem dX9_node_17 : decode cX9_node 17 = .ok (.iconst 0, 1) := by decide +kernel
theorem dX9_node_18 : decode cX9_node 18 = .ok (.invokevirtual 29, 3) := by decide +kernel
theorem dX9_node_21 : decode cX9_node 21 = .ok (.iload_n 1, 1) := by decide +kernel
theorem dX9_node_22 : decode cX9_node 22 = .ok (.iconst 1, 1) := by decide +kernel
theorem dX9_node_23 : decode cX9_node 23 = .ok (.iconst 5, 1) := by decide +kernel
theorem dX9_node_24 : decode cX9_node 24 = .ok (.invokestatic 33, 3) := by decide +kernel
theorem dX9_node_27 : decode cX9_node 27 = .ok (.ifCond .ne 15, 3) := by decide +kernel
theorem dX9_node_30 : decode cX9_node 30 = .ok (.iload_n 1, 1) := by decide +kernel
theorem dX9_node_31 : decode cX9_node 31 = .ok (.bipush 7, 2) := by decide +kernel
theorem dX9_node_33 : decode cX9_node 33 = .ok (.if_icmp .eq 9, 3) := by decide +kernel
theorem dX9_node_36 : decode cX9_node 36 = .ok (.iload_n 1, 1) := by decide +kernel
theorem dX9_node_37 : decode cX9_node 37 = .ok (.bipush 8, 2) := by decide +kernel
theorem dX9_node_39 : decode cX9_node 39 = .ok (.if_icmp .ne 7, 3) := by decide +kernel
theorem dX9_node_42 : decode cX9_node 42 = .ok (.iconst 1, 1) := by decide +kernel
theorem dX9_node_43 : decode cX9_node 43 = .ok (.goto 4, 3) := by decide +kernel
theorem dX9_node_46 : decode cX9_node 46 = .ok (.iconst 0, 1) := by decide +kernel
theorem dX9_node_47 : decode cX9_node 47 = .ok (.istore 5, 2) := by decide +kernel
theorem dX9_node_49 : decode cX9_node 49 = .ok (.iload_n 1, 1) := by decide +kernel
theorem dX9_node_50 : decode cX9_node 50 = .ok (.iconst 3, 1) := by decide +kernel
theorem dX9_node_51 : decode cX9_node 51 = .ok (.iconst 5, 1) := by decide +kernel
theorem dX9_node_52 : decode cX9_node 52 = .ok (.invokestatic 33, 3) := by decide +kernel
theorem dX9_node_55 : decode cX9_node 55 = .ok (.istore 6, 2) := by decide +kernel
theorem dX9_node_57 : decode cX9_node 57 = .ok (.iload_n 1, 1) := by decide +kernel
theorem dX9_node_58 : decode cX9_node 58 = .ok (.ifCond .eq 14, 3) := by decide +kernel
theorem dX9_node_61 : decode cX9_node 61 = .ok (.iload_n 1, 1) := by decide +kernel
theorem dX9_node_62 : decode cX9_node 62 = .ok (.bipush 6, 2) := by decide +kernel
theorem dX9_node_64 : decode cX9_node 64 = .ok (.bipush 8, 2) := by decide +kernel
theorem dX9_node_66 : decode cX9_node 66 = .ok (.invokestatic 33, 3) := by decide +kernel
theorem dX9_node_69 : decode cX9_node 69 = .ok (.ifCond .eq 7, 3) := by decide +kernel
theorem dX9_node_72 : decode cX9_node 72 = .ok (.iconst 1, 1) := by decide +kernel
theorem dX9_node_73 : decode cX9_node 73 = .ok (.goto 4, 3) := by decide +kernel
theorem dX9_node_76 : decode cX9_node 76 = .ok (.iconst 0, 1) := by decide +kernel
theorem dX9_node_77 : decode cX9_node 77 = .ok (.istore 7, 2) := by decide +kernel
theorem dX9_node_79 : decode cX9_node 79 = .ok (.iload 5, 2) := by decide +kernel
theorem dX9_node_81 : decode cX9_node 81 = .ok (.ifCond .eq 14, 3) := by decide +kernel
theorem dX9_node_84 : decode cX9_node 84 = .ok (.aload_n 0, 1) := by decide +kernel
theorem dX9_node_85 : decode cX9_node 85 = .ok (.getfield 12, 3) := by decide +kernel
theorem dX9_node_88 : decode cX9_node 88 = .ok (.iload_n 2, 1) := by decide +kernel
theorem dX9_node_89 : decode cX9_node 89 = .ok (.invokevirtual 85, 3) := by decide +kernel
theorem dX9_node_92 : decode cX9_node 92 = .ok (.ifCond .eq 40, 3) := by decide +kernel
theorem dX9_node_95 : decode cX9_node 95 = .ok (.iload 6, 2) := by decide +kernel
theorem dX9_node_97 : decode cX9_node 97 = .ok (.ifCond .eq 14, 3) := by decide +kernel
theorem dX9_node_100 : decode cX9_node 100 = .ok (.aload_n 0, 1) := by decide +kernel
theorem dX9_node_101 : decode cX9_node 101 = .ok (.getfield 12, 3) := by decide +kernel
theorem dX9_node_104 : decode cX9_node 104 = .ok (.iload_n 3, 1) := by decide +kernel
theorem dX9_node_105 : decode cX9_node 105 = .ok (.invokevirtual 85, 3) := by decide +kernel
theorem dX9_node_108 : decode cX9_node 108 = .ok (.ifCond .eq 24, 3) := by decide +kernel
theorem dX9_node_111 : decode cX9_node 111 = .ok (.iload 7, 2) := by decide +kernel
theorem dX9_node_113 : decode cX9_node 113 = .ok (.ifCond .eq 15, 3) := by decide +kernel
theorem dX9_node_116 : decode cX9_node 116 = .ok (.aload_n 0, 1) := by decide +kernel
theorem dX9_node_117 : decode cX9_node 117 = .ok (.getfield 12, 3) := by decide +kernel
theorem dX9_node_120 : decode cX9_node 120 = .ok (.iload 4, 2) := by decide +kernel
theorem dX9_node_122 : decode cX9_node 122 = .ok (.invokevirtual 47, 3) := by decide +kernel
theorem dX9_node_125 : decode cX9_node 125 = .ok (.ifCond .eq 7, 3) := by decide +kernel
theorem dX9_node_128 : decode cX9_node 128 = .ok (.iconst 1, 1) := by decide +kernel
theorem dX9_node_129 : decode cX9_node 129 = .ok (.goto 4, 3) := by decide +kernel
theorem dX9_node_132 : decode cX9_node 132 = .ok (.iconst 0, 1) := by decide +kernel
theorem dX9_node_133 : decode cX9_node 133 = .ok (.invokestatic 51, 3) := by decide +kernel
theorem dX9_node_136 : decode cX9_node 136 = .ok (.iload_n 1, 1) := by decide +kernel
theorem dX9_node_137 : decode cX9_node 137 = .ok (.iconst 0, 1) := by decide +kernel
theorem dX9_node_138 : decode cX9_node 138 = .ok (.bipush 8, 2) := by decide +kernel
theorem dX9_node_140 : decode cX9_node 140 = .ok (.invokestatic 33, 3) := by decide +kernel
theorem dX9_node_143 : decode cX9_node 143 = .ok (.ifCond .eq 51, 3) := by decide +kernel
theorem dX9_node_146 : decode cX9_node 146 = .ok (.iload 5, 2) := by decide +kernel
theorem dX9_node_148 : decode cX9_node 148 = .ok (.ifCond .eq 20, 3) := by decide +kernel
theorem dX9_node_151 : decode cX9_node 151 = .ok (.aload_n 0, 1) := by decide +kernel
theorem dX9_node_152 : decode cX9_node 152 = .ok (.getfield 12, 3) := by decide +kernel
theorem dX9_node_155 : decode cX9_node 155 = .ok (.getfield 88, 3) := by decide +kernel
theorem dX9_node_158 : decode cX9_node 158 = .ok (.iload_n 2, 1) := by decide +kernel
theorem dX9_node_159 : decode cX9_node 159 = .ok (.aaload, 1) := by decide +kernel
theorem dX9_node_160 : decode cX9_node 160 = .ok (.getfield 92, 3) := by decide +kernel
theorem dX9_node_163 : decode cX9_node 163 = .ok (.bipush 8, 2) := by decide +kernel
theorem dX9_node_165 : decode cX9_node 165 = .ok (.if_icmp .eq 29, 3) := by decide +kernel
theorem dX9_node_168 : decode cX9_node 168 = .ok (.iload 6, 2) := by decide +kernel
theorem dX9_node_170 : decode cX9_node 170 = .ok (.ifCond .eq 20, 3) := by decide +kernel
theorem dX9_node_173 : decode cX9_node 173 = .ok (.aload_n 0, 1) := by decide +kernel
theorem dX9_node_174 : decode cX9_node 174 = .ok (.getfield 12, 3) := by decide +kernel
theorem dX9_node_177 : decode cX9_node 177 = .ok (.getfield 88, 3) := by decide +kernel
theorem dX9_node_180 : decode cX9_node 180 = .ok (.iload_n 3, 1) := by decide +kernel
theorem dX9_node_181 : decode cX9_node 181 = .ok (.aaload, 1) := by decide +kernel
theorem dX9_node_182 : decode cX9_node 182 = .ok (.getfield 92, 3) := by decide +kernel
theorem dX9_node_185 : decode cX9_node 185 = .ok (.bipush 8, 2) := by decide +kernel
theorem dX9_node_187 : decode cX9_node 187 = .ok (.if_icmp .eq 7, 3) := by decide +kernel
theorem dX9_node_190 : decode cX9_node 190 = .ok (.iconst 1, 1) := by decide +kernel
theorem dX9_node_191 : decode cX9_node 191 = .ok (.goto 4, 3) := by decide +kernel
theorem dX9_node_194 : decode cX9_node 194 = .ok (.iconst 0, 1) := by decide +kernel
theorem dX9_node_195 : decode cX9_node 195 = .ok (.invokestatic 37, 3) := by decide +kernel
theorem dX9_node_198 : decode cX9_node 198 = .ok (.aload_n 0, 1) := by decide +kernel
theorem dX9_node_199 : decode cX9_node 199 = .ok (.getfield 21, 3) := by decide +kernel
theorem dX9_node_202 : decode cX9_node 202 = .ok (.invokevirtual 40, 3) := by decide +kernel
theorem dX9_node_205 : decode cX9_node 205 = .ok (.aload_n 0, 1) := by decide +kernel
theorem dX9_node_206 : decode cX9_node 206 = .ok (.getfield 12, 3) := by decide +kernel
theorem dX9_node_209 : decode cX9_node 209 = .ok (.iload_n 1, 1) := by decide +kernel
theorem dX9_node_210 : decode cX9_node 210 = .ok (.iload 5, 2) := by decide +kernel
theorem dX9_node_212 : decode cX9_node 212 = .ok (.ifCond .eq 7, 3) := by decide +kernel
theorem dX9_node_215 : decode cX9_node 215 = .ok (.iload_n 2, 1) := by decide +kernel
theorem dX9_node_216 : decode cX9_node 216 = .ok (.goto 4, 3) := by decide +kernel
theorem dX9_node_219 : decode cX9_node 219 = .ok (.iconst (-1), 1) := by decide +kernel
theorem dX9_node_220 : decode cX9_node 220 = .ok (.iload 6, 2) := by decide +kernel
theorem dX9_node_222 : decode cX9_node 222 = .ok (.ifCond .eq 7, 3) := by decide +kernel
theorem dX9_node_225 : decode cX9_node 225 = .ok (.iload_n 3, 1) := by decide +kernel
theorem dX9_node_226 : decode cX9_node 226 = .ok (.goto 4, 3) := by decide +kernel
theorem dX9_node_229 : decode cX9_node 229 = .ok (.iconst (-1), 1) := by decide +kernel
theorem dX9_node_230 : decode cX9_node 230 = .ok (.iload 7, 2) := by decide +kernel
theorem dX9_node_232 : decode cX9_node 232 = .ok (.ifCond .eq 8, 3) := by decide +kernel
theorem dX9_node_235 : decode cX9_node 235 = .ok (.iload 4, 2) := by decide +kernel
theorem dX9_node_237 : decode cX9_node 237 = .ok (.goto 4, 3) := by decide +kernel
theorem dX9_node_240 : decode cX9_node 240 = .ok (.iconst (-1), 1) := by decide +kernel
theorem dX9_node_241 : decode cX9_node 241 = .ok (.invokevirtual 97, 3) := by decide +kernel
theorem dX9_node_244 : decode cX9_node 244 = .ok (.ireturn, 1) := by decide +kernel
theorem dX9_feed_0 : decode cX9_feed 0 = .ok (.aload_n 0, 1) := by decide +kernel
theorem dX9_feed_1 : decode cX9_feed 1 = .ok (.iconst 1, 1) := by decide +kernel
theorem dX9_feed_2 : decode cX9_feed 2 = .ok (.invokevirtual 29, 3) := by decide +kernel
theorem dX9_feed_5 : decode cX9_feed 5 = .ok (.aload_n 0, 1) := by decide +kernel
theorem dX9_feed_6 : decode cX9_feed 6 = .ok (.getfield 12, 3) := by decide +kernel
theorem dX9_feed_9 : decode cX9_feed 9 = .ok (.iload_n 1, 1) := by decide +kernel
theorem dX9_feed_10 : decode cX9_feed 10 = .ok (.invokevirtual 85, 3) := by decide +kernel
theorem dX9_feed_13 : decode cX9_feed 13 = .ok (.ifCond .eq 18, 3) := by decide +kernel
theorem dX9_feed_16 : decode cX9_feed 16 = .ok (.aload_n 0, 1) := by decide +kernel
theorem dX9_feed_17 : decode cX9_feed 17 = .ok (.getfield 12, 3) := by decide +kernel
theorem dX9_feed_20 : decode cX9_feed 20 = .ok (.iload_n 2, 1) := by decide +kernel
theorem dX9_feed_21 : decode cX9_feed 21 = .ok (.invokevirtual 85, 3) := by decide +kernel
theorem dX9_feed_24 : decode cX9_feed 24 = .ok (.ifCond .eq 7, 3) := by decide +kernel
theorem dX9_feed_27 : decode cX9_feed 27 = .ok (.iconst 1, 1) := by decide +kernel
theorem dX9_feed_28 : decode cX9_feed 28 = .ok (.goto 4, 3) := by decide +kernel
theorem dX9_feed_31 : decode cX9_feed 31 = .ok (.iconst 0, 1) := by decide +kernel
theorem dX9_feed_32 : decode cX9_feed 32 = .ok (.invokestatic 51, 3) := by decide +kernel
theorem dX9_feed_35 : decode cX9_feed 35 = .ok (.aload_n 0, 1) := by decide +kernel
theorem dX9_feed_36 : decode cX9_feed 36 = .ok (.getfield 12, 3) := by decide +kernel
theorem dX9_feed_39 : decode cX9_feed 39 = .ok (.getfield 88, 3) := by decide +kernel
theorem dX9_feed_42 : decode cX9_feed 42 = .ok (.iload_n 1, 1) := by decide +kernel
theorem dX9_feed_43 : decode cX9_feed 43 = .ok (.aaload, 1) := by decide +kernel
theorem dX9_feed_44 : decode cX9_feed 44 = .ok (.getfield 92, 3) := by decide +kernel
theorem dX9_feed_47 : decode cX9_feed 47 = .ok (.bipush 6, 2) := by decide +kernel
theorem dX9_feed_49 : decode cX9_feed 49 = .ok (.if_icmp .ne 24, 3) := by decide +kernel
theorem dX9_feed_52 : decode cX9_feed 52 = .ok (.aload_n 0, 1) := by decide +kernel
theorem dX9_feed_53 : decode cX9_feed 53 = .ok (.getfield 12, 3) := by decide +kernel
theorem dX9_feed_56 : decode cX9_feed 56 = .ok (.getfield 88, 3) := by decide +kernel
theorem dX9_feed_59 : decode cX9_feed 59 = .ok (.iload_n 2, 1) := by decide +kernel
theorem dX9_feed_60 : decode cX9_feed 60 = .ok (.aaload, 1) := by decide +kernel
theorem dX9_feed_61 : decode cX9_feed 61 = .ok (.getfield 92, 3) := by decide +kernel
theorem dX9_feed_64 : decode cX9_feed 64 = .ok (.bipush 8, 2) := by decide +kernel
theorem dX9_feed_66 : decode cX9_feed 66 = .ok (.if_icmp .eq 7, 3) := by decide +kernel
theorem dX9_feed_69 : decode cX9_feed 69 = .ok (.iconst 1, 1) := by decide +kernel
theorem dX9_feed_70 : decode cX9_feed 70 = .ok (.goto 4, 3) := by decide +kernel
theorem dX9_feed_73 : decode cX9_feed 73 = .ok (.iconst 0, 1) := by decide +kernel
theorem dX9_feed_74 : decode cX9_feed 74 = .ok (.invokestatic 37, 3) := by decide +kernel
theorem dX9_feed_77 : decode cX9_feed 77 = .ok (.aload_n 0, 1) := by decide +kernel
theorem dX9_feed_78 : decode cX9_feed 78 = .ok (.getfield 21, 3) := by decide +kernel
theorem dX9_feed_81 : decode cX9_feed 81 = .ok (.invokevirtual 40, 3) := by decide +kernel
theorem dX9_feed_84 : decode cX9_feed 84 = .ok (.aload_n 0, 1) := by decide +kernel
theorem dX9_feed_85 : decode cX9_feed 85 = .ok (.getfield 12, 3) := by decide +kernel
theorem dX9_feed_88 : decode cX9_feed 88 = .ok (.getfield 88, 3) := by decide +kernel
theorem dX9_feed_91 : decode cX9_feed 91 = .ok (.iload_n 1, 1) := by decide +kernel
theorem dX9_feed_92 : decode cX9_feed 92 = .ok (.aaload, 1) := by decide +kernel
theorem dX9_feed_93 : decode cX9_feed 93 = .ok (.getfield 101, 3) := by decide +kernel
theorem dX9_feed_96 : decode cX9_feed 96 = .ok (.istore_n 3, 1) := by decide +kernel
theorem dX9_feed_97 : decode cX9_feed 97 = .ok (.aload_n 0, 1) := by decide +kernel
theorem dX9_feed_98 : decode cX9_feed 98 = .ok (.getfield 12, 3) := by decide +kernel
theorem dX9_feed_101 : decode cX9_feed 101 = .ok (.getfield 88, 3) := by decide +kernel
theorem dX9_feed_104 : decode cX9_feed 104 = .ok (.iload_n 1, 1) := by decide +kernel
theorem dX9_feed_105 : decode cX9_feed 105 = .ok (.aaload, 1) := by decide +kernel
theorem dX9_feed_106 : decode cX9_feed 106 = .ok (.iload_n 2, 1) := by decide +kernel
theorem dX9_feed_107 : decode cX9_feed 107 = .ok (.putfield 101, 3) := by decide +kernel
theorem dX9_feed_110 : decode cX9_feed 110 = .ok (.iload_n 3, 1) := by decide +kernel
theorem dX9_feed_111 : decode cX9_feed 111 = .ok (.ireturn, 1) := by decide +kernel
theorem dX9_size_0 : decode cX9_size 0 = .ok (.aload_n 0, 1) := by decide +kernel
theorem dX9_size_1 : decode cX9_size 1 = .ok (.iconst 1, 1) := by decide +kernel
theorem dX9_size_2 : decode cX9_size 2 = .ok (.invokevirtual 29, 3) := by decide +kernel
theorem dX9_size_5 : decode cX9_size 5 = .ok (.aload_n 0, 1) := by decide +kernel
theorem dX9_size_6 : decode cX9_size 6 = .ok (.getfield 12, 3) := by decide +kernel
theorem dX9_size_9 : decode cX9_size 9 = .ok (.iload_n 1, 1) := by decide +kernel
theorem dX9_size_10 : decode cX9_size 10 = .ok (.invokevirtual 85, 3) := by decide +kernel
theorem dX9_size_13 : decode cX9_size 13 = .ok (.invokestatic 51, 3) := by decide +kernel
theorem dX9_size_16 : decode cX9_size 16 = .ok (.iload_n 2, 1) := by decide +kernel
theorem dX9_size_17 : decode cX9_size 17 = .ok (.invokestatic 104, 3) := by decide +kernel
theorem dX9_size_20 : decode cX9_size 20 = .ok (.invokestatic 37, 3) := by decide +kernel
theorem dX9_size_23 : decode cX9_size 23 = .ok (.aload_n 0, 1) := by decide +kernel
theorem dX9_size_24 : decode cX9_size 24 = .ok (.getfield 21, 3) := by decide +kernel
theorem dX9_size_27 : decode cX9_size 27 = .ok (.invokevirtual 40, 3) := by decide +kernel
theorem dX9_size_30 : decode cX9_size 30 = .ok (.aload_n 0, 1) := by decide +kernel
theorem dX9_size_31 : decode cX9_size 31 = .ok (.getfield 12, 3) := by decide +kernel
theorem dX9_size_34 : decode cX9_size 34 = .ok (.getfield 88, 3) := by decide +kernel
theorem dX9_size_37 : decode cX9_size 37 = .ok (.iload_n 1, 1) := by decide +kernel
theorem dX9_size_38 : decode cX9_size 38 = .ok (.aaload, 1) := by decide +kernel
theorem dX9_size_39 : decode cX9_size 39 = .ok (.getfield 107, 3) := by decide +kernel
theorem dX9_size_42 : decode cX9_size 42 = .ok (.istore_n 3, 1) := by decide +kernel
theorem dX9_size_43 : decode cX9_size 43 = .ok (.aload_n 0, 1) := by decide +kernel
theorem dX9_size_44 : decode cX9_size 44 = .ok (.getfield 12, 3) := by decide +kernel
theorem dX9_size_47 : decode cX9_size 47 = .ok (.getfield 88, 3) := by decide +kernel
theorem dX9_size_50 : decode cX9_size 50 = .ok (.iload_n 1, 1) := by decide +kernel
theorem dX9_size_51 : decode cX9_size 51 = .ok (.aaload, 1) := by decide +kernel
theorem dX9_size_52 : decode cX9_size 52 = .ok (.iload_n 2, 1) := by decide +kernel
theorem dX9_size_53 : decode cX9_size 53 = .ok (.putfield 107, 3) := by decide +kernel
theorem dX9_size_56 : decode cX9_size 56 = .ok (.iload_n 3, 1) := by decide +kernel
theorem dX9_size_57 : decode cX9_size 57 = .ok (.ireturn, 1) := by decide +kernel
theorem dX9_wire_0 : decode cX9_wire 0 = .ok (.aload_n 0, 1) := by decide +kernel
theorem dX9_wire_1 : decode cX9_wire 1 = .ok (.iconst 1, 1) := by decide +kernel
theorem dX9_wire_2 : decode cX9_wire 2 = .ok (.invokevirtual 29, 3) := by decide +kernel
theorem dX9_wire_5 : decode cX9_wire 5 = .ok (.aload_n 0, 1) := by decide +kernel
theorem dX9_wire_6 : decode cX9_wire 6 = .ok (.getfield 12, 3) := by decide +kernel
theorem dX9_wire_9 : decode cX9_wire 9 = .ok (.iload_n 1, 1) := by decide +kernel
theorem dX9_wire_10 : decode cX9_wire 10 = .ok (.invokevirtual 85, 3) := by decide +kernel
theorem dX9_wire_13 : decode cX9_wire 13 = .ok (.invokestatic 51, 3) := by decide +kernel
theorem dX9_wire_16 : decode cX9_wire 16 = .ok (.iload_n 2, 1) := by decide +kernel
theorem dX9_wire_17 : decode cX9_wire 17 = .ok (.iconst 0, 1) := by decide +kernel
theorem dX9_wire_18 : decode cX9_wire 18 = .ok (.bipush 80, 2) := by decide +kernel
theorem dX9_wire_20 : decode cX9_wire 20 = .ok (.invokestatic 33, 3) := by decide +kernel
theorem dX9_wire_23 : decode cX9_wire 23 = .ok (.invokestatic 37, 3) := by decide +kernel
theorem dX9_wire_26 : decode cX9_wire 26 = .ok (.aload_n 0, 1) := by decide +kernel
theorem dX9_wire_27 : decode cX9_wire 27 = .ok (.getfield 21, 3) := by decide +kernel
theorem dX9_wire_30 : decode cX9_wire 30 = .ok (.invokevirtual 40, 3) := by decide +kernel
theorem dX9_wire_33 : decode cX9_wire 33 = .ok (.aload_n 0, 1) := by decide +kernel
theorem dX9_wire_34 : decode cX9_wire 34 = .ok (.getfield 12, 3) := by decide +kernel
theorem dX9_wire_37 : decode cX9_wire 37 = .ok (.getfield 88, 3) := by decide +kernel
theorem dX9_wire_40 : decode cX9_wire 40 = .ok (.iload_n 1, 1) := by decide +kernel
theorem dX9_wire_41 : decode cX9_wire 41 = .ok (.aaload, 1) := by decide +kernel
theorem dX9_wire_42 : decode cX9_wire 42 = .ok (.iload_n 2, 1) := by decide +kernel
theorem dX9_wire_43 : decode cX9_wire 43 = .ok (.i2f, 1) := by decide +kernel
theorem dX9_wire_44 : decode cX9_wire 44 = .ok (.ldc 110, 2) := by decide +kernel
theorem dX9_wire_46 : decode cX9_wire 46 = .ok (.fmul, 1) := by decide +kernel
theorem dX9_wire_47 : decode cX9_wire 47 = .ok (.putfield 111, 3) := by decide +kernel
theorem dX9_wire_50 : decode cX9_wire 50 = .ok (.aload_n 0, 1) := by decide +kernel
theorem dX9_wire_51 : decode cX9_wire 51 = .ok (.getfield 21, 3) := by decide +kernel
theorem dX9_wire_54 : decode cX9_wire 54 = .ok (.invokevirtual 115, 3) := by decide +kernel
theorem dX9_wire_57 : decode cX9_wire 57 = .ok (.getfield 119, 3) := by decide +kernel
theorem dX9_wire_60 : decode cX9_wire 60 = .ok (.iload_n 1, 1) := by decide +kernel
theorem dX9_wire_61 : decode cX9_wire 61 = .ok (.faload, 1) := by decide +kernel
theorem dX9_wire_62 : decode cX9_wire 62 = .ok (.f2i, 1) := by decide +kernel
theorem dX9_wire_63 : decode cX9_wire 63 = .ok (.ireturn, 1) := by decide +kernel
theorem dX9_skew_0 : decode cX9_skew 0 = .ok (.aload_n 0, 1) := by decide +kernel
theorem dX9_skew_1 : decode cX9_skew 1 = .ok (.iconst 1, 1) := by decide +kernel
theorem dX9_skew_2 : decode cX9_skew 2 = .ok (.invokevirtual 29, 3) := by decide +kernel
theorem dX9_skew_5 : decode cX9_skew 5 = .ok (.aload_n 0, 1) := by decide +kernel
theorem dX9_skew_6 : decode cX9_skew 6 = .ok (.getfield 12, 3) := by decide +kernel
theorem dX9_skew_9 : decode cX9_skew 9 = .ok (.iload_n 1, 1) := by decide +kernel
theorem dX9_skew_10 : decode cX9_skew 10 = .ok (.invokevirtual 85, 3) := by decide +kernel
theorem dX9_skew_13 : decode cX9_skew 13 = .ok (.invokestatic 51, 3) := by decide +kernel
theorem dX9_skew_16 : decode cX9_skew 16 = .ok (.aload_n 0, 1) := by decide +kernel
theorem dX9_skew_17 : decode cX9_skew 17 = .ok (.getfield 12, 3) := by decide +kernel
theorem dX9_skew_20 : decode cX9_skew 20 = .ok (.getfield 88, 3) := by decide +kernel
theorem dX9_skew_23 : decode cX9_skew 23 = .ok (.iload_n 1, 1) := by decide +kernel
theorem dX9_skew_24 : decode cX9_skew 24 = .ok (.aaload, 1) := by decide +kernel
theorem dX9_skew_25 : decode cX9_skew 25 = .ok (.getfield 92, 3) := by decide +kernel
theorem dX9_skew_28 : decode cX9_skew 28 = .ok (.bipush 6, 2) := by decide +kernel
theorem dX9_skew_30 : decode cX9_skew 30 = .ok (.if_icmp .eq 20, 3) := by decide +kernel
theorem dX9_skew_33 : decode cX9_skew 33 = .ok (.aload_n 0, 1) := by decide +kernel
theorem dX9_skew_34 : decode cX9_skew 34 = .ok (.getfield 12, 3) := by decide +kernel
theorem dX9_skew_37 : decode cX9_skew 37 = .ok (.getfield 88, 3) := by decide +kernel
theorem dX9_skew_40 : decode cX9_skew 40 = .ok (.iload_n 1, 1) := by decide +kernel
theorem dX9_skew_41 : decode cX9_skew 41 = .ok (.aaload, 1) := by decide +kernel
theorem dX9_skew_42 : decode cX9_skew 42 = .ok (.getfield 92, 3) := by decide +kernel
theorem dX9_skew_45 : decode cX9_skew 45 = .ok (.bipush 7, 2) := by decide +kernel
theorem dX9_skew_47 : decode cX9_skew 47 = .ok (.if_icmp .ne 17, 3) := by decide +kernel
theorem dX9_skew_50 : decode cX9_skew 50 = .ok (.iload_n 2, 1) := by decide +kernel
theorem dX9_skew_51 : decode cX9_skew 51 = .ok (.iconst 0, 1) := by decide +kernel
theorem dX9_skew_52 : decode cX9_skew 52 = .ok (.bipush 20, 2) := by decide +kernel
theorem dX9_skew_54 : decode cX9_skew 54 = .ok (.invokestatic 33, 3) := by decide +kernel
theorem dX9_skew_57 : decode cX9_skew 57 = .ok (.ifCond .eq 7, 3) := by decide +kernel
theorem dX9_skew_60 : decode cX9_skew 60 = .ok (.iconst 1, 1) := by decide +kernel
theorem dX9_skew_61 : decode cX9_skew 61 = .ok (.goto 4, 3) := by decide +kernel
theorem dX9_skew_64 : decode cX9_skew 64 = .ok (.iconst 0, 1) := by decide +kernel
theorem dX9_skew_65 : decode cX9_skew 65 = .ok (.invokestatic 37, 3) := by decide +kernel
theorem dX9_skew_68 : decode cX9_skew 68 = .ok (.aload_n 0, 1) := by decide +kernel
theorem dX9_skew_69 : decode cX9_skew 69 = .ok (.getfield 21, 3) := by decide +kernel
theorem dX9_skew_72 : decode cX9_skew 72 = .ok (.invokevirtual 40, 3) := by decide +kernel
theorem dX9_skew_75 : decode cX9_skew 75 = .ok (.aload_n 0, 1) := by decide +kernel
theorem dX9_skew_76 : decode cX9_skew 76 = .ok (.getfield 12, 3) := by decide +kernel
theorem dX9_skew_79 : decode cX9_skew 79 = .ok (.getfield 88, 3) := by decide +kernel
theorem dX9_skew_82 : decode cX9_skew 82 = .ok (.iload_n 1, 1) := by decide +kernel
theorem dX9_skew_83 : decode cX9_skew 83 = .ok (.aaload, 1) := by decide +kernel
theorem dX9_skew_84 : decode cX9_skew 84 = .ok (.getfield 125, 3) := by decide +kernel
theorem dX9_skew_87 : decode cX9_skew 87 = .ok (.istore_n 3, 1) := by decide +kernel
theorem dX9_skew_88 : decode cX9_skew 88 = .ok (.aload_n 0, 1) := by decide +kernel
theorem dX9_skew_89 : decode cX9_skew 89 = .ok (.getfield 12, 3) := by decide +kernel
theorem dX9_skew_92 : decode cX9_skew 92 = .ok (.getfield 88, 3) := by decide +kernel
theorem dX9_skew_95 : decode cX9_skew 95 = .ok (.iload_n 1, 1) := by decide +kernel
theorem dX9_skew_96 : decode cX9_skew 96 = .ok (.aaload, 1) := by decide +kernel
theorem dX9_skew_97 : decode cX9_skew 97 = .ok (.iload_n 2, 1) := by decide +kernel
theorem dX9_skew_98 : decode cX9_skew 98 = .ok (.putfield 125, 3) := by decide +kernel
theorem dX9_skew_101 : decode cX9_skew 101 = .ok (.iload_n 3, 1) := by decide +kernel
theorem dX9_skew_102 : decode cX9_skew 102 = .ok (.ireturn, 1) := by decide +kernel
theorem dX9_exception_0 : decode cX9_exception 0 = .ok (.aload_n 0, 1) := by decide +kernel
theorem dX9_exception_1 : decode cX9_exception 1 = .ok (.aload_n 0, 1) := by decide +kernel
theorem dX9_exception_2 : decode cX9_exception 2 = .ok (.getfield 12, 3) := by decide +kernel
theorem dX9_exception_5 : decode cX9_exception 5 = .ok (.getfield 128, 3) := by decide +kernel
theorem dX9_exception_8 : decode cX9_exception 8 = .ok (.bipush 6, 2) := by decide +kernel
theorem dX9_exception_10 : decode cX9_exception 10 = .ok (.if_icmp .ge 7, 3) := by decide +kernel
theorem dX9_exception_13 : decode cX9_exception 13 = .ok (.iconst 1, 1) := by decide +kernel
theorem dX9_exception_14 : decode cX9_exception 14 = .ok (.goto 4, 3) := by decide +kernel
theorem dX9_exception_17 : decode cX9_exception 17 = .ok (.iconst 0, 1) := by decide +kernel
theorem dX9_exception_18 : decode cX9_exception 18 = .ok (.invokevirtual 29, 3) := by decide +kernel
theorem dX9_exception_21 : decode cX9_exception 21 = .ok (.iload_n 2, 1) := by decide +kernel
theorem dX9_exception_22 : decode cX9_exception 22 = .ok (.iconst (-1), 1) := by decide +kernel
theorem dX9_exception_23 : decode cX9_exception 23 = .ok (.if_icmp .eq 14, 3) := by decide +kernel
theorem dX9_exception_26 : decode cX9_exception 26 = .ok (.aload_n 0, 1) := by decide +kernel
theorem dX9_exception_27 : decode cX9_exception 27 = .ok (.getfield 12, 3) := by decide +kernel
theorem dX9_exception_30 : decode cX9_exception 30 = .ok (.iload_n 2, 1) := by decide +kernel
theorem dX9_exception_31 : decode cX9_exception 31 = .ok (.invokevirtual 85, 3) := by decide +kernel
theorem dX9_exception_34 : decode cX9_exception 34 = .ok (.ifCond .eq 23, 3) := by decide +kernel
theorem dX9_exception_37 : decode cX9_exception 37 = .ok (.iload_n 3, 1) := by decide +kernel
theorem dX9_exception_38 : decode cX9_exception 38 = .ok (.iconst (-1), 1) := by decide +kernel
theorem dX9_exception_39 : decode cX9_exception 39 = .ok (.if_icmp .eq 14, 3) := by decide +kernel
theorem dX9_exception_42 : decode cX9_exception 42 = .ok (.aload_n 0, 1) := by decide +kernel
theorem dX9_exception_43 : decode cX9_exception 43 = .ok (.getfield 12, 3) := by decide +kernel
theorem dX9_exception_46 : decode cX9_exception 46 = .ok (.iload_n 3, 1) := by decide +kernel
theorem dX9_exception_47 : decode cX9_exception 47 = .ok (.invokevirtual 85, 3) := by decide +kernel
theorem dX9_exception_50 : decode cX9_exception 50 = .ok (.ifCond .eq 7, 3) := by decide +kernel
theorem dX9_exception_53 : decode cX9_exception 53 = .ok (.iconst 1, 1) := by decide +kernel
theorem dX9_exception_54 : decode cX9_exception 54 = .ok (.goto 4, 3) := by decide +kernel
theorem dX9_exception_57 : decode cX9_exception 57 = .ok (.iconst 0, 1) := by decide +kernel
theorem dX9_exception_58 : decode cX9_exception 58 = .ok (.invokestatic 51, 3) := by decide +kernel
theorem dX9_exception_61 : decode cX9_exception 61 = .ok (.iload_n 1, 1) := by decide +kernel
theorem dX9_exception_62 : decode cX9_exception 62 = .ok (.ifCond .eq 12, 3) := by decide +kernel
theorem dX9_exception_65 : decode cX9_exception 65 = .ok (.iload_n 1, 1) := by decide +kernel
theorem dX9_exception_66 : decode cX9_exception 66 = .ok (.iconst 2, 1) := by decide +kernel
theorem dX9_exception_67 : decode cX9_exception 67 = .ok (.iconst 4, 1) := by decide +kernel
theorem dX9_exception_68 : decode cX9_exception 68 = .ok (.invokestatic 33, 3) := by decide +kernel
theorem dX9_exception_71 : decode cX9_exception 71 = .ok (.ifCond .eq 47, 3) := by decide +kernel
theorem dX9_exception_74 : decode cX9_exception 74 = .ok (.iload_n 2, 1) := by decide +kernel
theorem dX9_exception_75 : decode cX9_exception 75 = .ok (.iconst (-1), 1) := by decide +kernel
theorem dX9_exception_76 : decode cX9_exception 76 = .ok (.if_icmp .eq 18, 3) := by decide +kernel
theorem dX9_exception_79 : decode cX9_exception 79 = .ok (.aload_n 0, 1) := by decide +kernel
theorem dX9_exception_80 : decode cX9_exception 80 = .ok (.getfield 12, 3) := by decide +kernel
theorem dX9_exception_83 : decode cX9_exception 83 = .ok (.getfield 88, 3) := by decide +kernel
theorem dX9_exception_86 : decode cX9_exception 86 = .ok (.iload_n 2, 1) := by decide +kernel
theorem dX9_exception_87 : decode cX9_exception 87 = .ok (.aaload, 1) := by decide +kernel
theorem dX9_exception_88 : decode cX9_exception 88 = .ok (.invokevirtual 131, 3) := by decide +kernel
theorem dX9_exception_91 : decode cX9_exception 91 = .ok (.ifCond .eq 27, 3) := by decide +kernel
theorem dX9_exception_94 : decode cX9_exception 94 = .ok (.iload_n 3, 1) := by decide +kernel
theorem dX9_exception_95 : decode cX9_exception 95 = .ok (.iconst (-1), 1) := by decide +kernel
theorem dX9_exception_96 : decode cX9_exception 96 = .ok (.if_icmp .eq 18, 3) := by decide +kernel
theorem dX9_exception_99 : decode cX9_exception 99 = .ok (.aload_n 0, 1) := by decide +kernel
theorem dX9_exception_100 : decode cX9_exception 100 = .ok (.getfield 12, 3) := by decide +kernel
theorem dX9_exception_103 : decode cX9_exception 103 = .ok (.getfield 88, 3) := by decide +kernel
theorem dX9_exception_106 : decode cX9_exception 106 = .ok (.iload_n 3, 1) := by decide +kernel
theorem dX9_exception_107 : decode cX9_exception 107 = .ok (.aaload, 1) := by decide +kernel
theorem dX9_exception_108 : decode cX9_exception 108 = .ok (.invokevirtual 135, 3) := by decide +kernel
theorem dX9_exception_111 : decode cX9_exception 111 = .ok (.ifCond .eq 7, 3) := by decide +kernel
theorem dX9_exception_114 : decode cX9_exception 114 = .ok (.iconst 1, 1) := by decide +kernel
theorem dX9_exception_115 : decode cX9_exception 115 = .ok (.goto 4, 3) := by decide +kernel
theorem dX9_exception_118 : decode cX9_exception 118 = .ok (.iconst 0, 1) := by decide +kernel
theorem dX9_exception_119 : decode cX9_exception 119 = .ok (.invokestatic 37, 3) := by decide +kernel
theorem dX9_exception_122 : decode cX9_exception 122 = .ok (.aload_n 0, 1) := by decide +kernel
theorem dX9_exception_123 : decode cX9_exception 123 = .ok (.getfield 21, 3) := by decide +kernel
theorem dX9_exception_126 : decode cX9_exception 126 = .ok (.invokevirtual 40, 3) := by decide +kernel
theorem dX9_exception_129 : decode cX9_exception 129 = .ok (.aload_n 0, 1) := by decide +kernel
theorem dX9_exception_130 : decode cX9_exception 130 = .ok (.getfield 12, 3) := by decide +kernel
theorem dX9_exception_133 : decode cX9_exception 133 = .ok (.iload_n 1, 1) := by decide +kernel
theorem dX9_exception_134 : decode cX9_exception 134 = .ok (.iload_n 2, 1) := by decide +kernel
theorem dX9_exception_135 : decode cX9_exception 135 = .ok (.iload_n 3, 1) := by decide +kernel
theorem dX9_exception_136 : decode cX9_exception 136 = .ok (.invokevirtual 138, 3) := by decide +kernel
theorem dX9_exception_139 : decode cX9_exception 139 = .ok (.ireturn, 1) := by decide +kernel
theorem dX9_sign_0 : decode cX9_sign 0 = .ok (.aload_n 0, 1) := by decide +kernel
theorem dX9_sign_1 : decode cX9_sign 1 = .ok (.getfield 142, 3) := by decide +kernel
theorem dX9_sign_4 : decode cX9_sign 4 = .ok (.istore_n 2, 1) := by decide +kernel
theorem dX9_sign_5 : decode cX9_sign 5 = .ok (.aload_n 0, 1) := by decide +kernel
theorem dX9_sign_6 : decode cX9_sign 6 = .ok (.iload_n 1, 1) := by decide +kernel
theorem dX9_sign_7 : decode cX9_sign 7 = .ok (.putfield 142, 3) := by decide +kernel
theorem dX9_sign_10 : decode cX9_sign 10 = .ok (.iload_n 2, 1) := by decide +kernel
theorem dX9_sign_11 : decode cX9_sign 11 = .ok (.ireturn, 1) := by decide +kernel
theorem dX9_knock_0 : decode cX9_knock 0 = .ok (.aload_n 0, 1) := by decide +kernel
theorem dX9_knock_1 : decode cX9_knock 1 = .ok (.dup, 1) := by decide +kernel
theorem dX9_knock_2 : decode cX9_knock 2 = .ok (.getfield 146, 3) := by decide +kernel
theorem dX9_knock_5 : decode cX9_knock 5 = .ok (.iconst 1, 1) := by decide +kernel
theorem dX9_knock_6 : decode cX9_knock 6 = .ok (.iadd, 1) := by decide +kernel
theorem dX9_knock_7 : decode cX9_knock 7 = .ok (.putfield 146, 3) := by decide +kernel
theorem dX9_knock_10 : decode cX9_knock 10 = .ok (.aload_n 0, 1) := by decide +kernel
theorem dX9_knock_11 : decode cX9_knock 11 = .ok (.getfield 146, 3) := by decide +kernel
theorem dX9_knock_14 : decode cX9_knock 14 = .ok (.ireturn, 1) := by decide +kernel
theorem dX9_ofClock_0 : decode cX9_ofClock 0 = .ok (.aload_n 0, 1) := by decide +kernel
theorem dX9_ofClock_1 : decode cX9_ofClock 1 = .ok (.getfield 12, 3) := by decide +kernel
theorem dX9_ofClock_4 : decode cX9_ofClock 4 = .ok (.iload_n 1, 1) := by decide +kernel
theorem dX9_ofClock_5 : decode cX9_ofClock 5 = .ok (.invokevirtual 47, 3) := by decide +kernel
theorem dX9_ofClock_8 : decode cX9_ofClock 8 = .ok (.invokestatic 51, 3) := by decide +kernel
theorem dX9_ofClock_11 : decode cX9_ofClock 11 = .ok (.iload_n 2, 1) := by decide +kernel
theorem dX9_ofClock_12 : decode cX9_ofClock 12 = .ok (.iconst 0, 1) := by decide +kernel
theorem dX9_ofClock_13 : decode cX9_ofClock 13 = .ok (.iconst 4, 1) := by decide +kernel
theorem dX9_ofClock_14 : decode cX9_ofClock 14 = .ok (.invokestatic 33, 3) := by decide +kernel
theorem dX9_ofClock_17 : decode cX9_ofClock 17 = .ok (.invokestatic 37, 3) := by decide +kernel
theorem dX9_ofClock_20 : decode cX9_ofClock 20 = .ok (.aload_n 0, 1) := by decide +kernel
theorem dX9_ofClock_21 : decode cX9_ofClock 21 = .ok (.getfield 12, 3) := by decide +kernel
theorem dX9_ofClock_24 : decode cX9_ofClock 24 = .ok (.getfield 54, 3) := by decide +kernel
theorem dX9_ofClock_27 : decode cX9_ofClock 27 = .ok (.iload_n 1, 1) := by decide +kernel
theorem dX9_ofClock_28 : decode cX9_ofClock 28 = .ok (.aaload, 1) := by decide +kernel
theorem dX9_ofClock_29 : decode cX9_ofClock 29 = .ok (.iload_n 2, 1) := by decide +kernel
theorem dX9_ofClock_30 : decode cX9_ofClock 30 = .ok (.invokevirtual 149, 3) := by decide +kernel
theorem dX9_ofClock_33 : decode cX9_ofClock 33 = .ok (.ireturn, 1) := by decide +kernel
theorem dX9_ofNode_0 : decode cX9_ofNode 0 = .ok (.aload_n 0, 1) := by decide +kernel
theorem dX9_ofNode_1 : decode cX9_ofNode 1 = .ok (.getfield 12, 3) := by decide +kernel
theorem dX9_ofNode_4 : decode cX9_ofNode 4 = .ok (.iload_n 1, 1) := by decide +kernel
theorem dX9_ofNode_5 : decode cX9_ofNode 5 = .ok (.invokevirtual 85, 3) := by decide +kernel
theorem dX9_ofNode_8 : decode cX9_ofNode 8 = .ok (.invokestatic 51, 3) := by decide +kernel
theorem dX9_ofNode_11 : decode cX9_ofNode 11 = .ok (.iload_n 2, 1) := by decide +kernel
theorem dX9_ofNode_12 : decode cX9_ofNode 12 = .ok (.iconst 0, 1) := by decide +kernel
theorem dX9_ofNode_13 : decode cX9_ofNode 13 = .ok (.bipush 6, 2) := by decide +kernel
theorem dX9_ofNode_15 : decode cX9_ofNode 15 = .ok (.invokestatic 33, 3) := by decide +kernel
theorem dX9_ofNode_18 : decode cX9_ofNode 18 = .ok (.invokestatic 37, 3) := by decide +kernel
theorem dX9_ofNode_21 : decode cX9_ofNode 21 = .ok (.iload_n 2, 1) := by decide +kernel
theorem dX9_ofNode_22 : decode cX9_ofNode 22 = .ok (.iconst 5, 1) := by decide +kernel
theorem dX9_ofNode_23 : decode cX9_ofNode 23 = .ok (.if_icmp .ne 14, 3) := by decide +kernel
theorem dX9_ofNode_26 : decode cX9_ofNode 26 = .ok (.aload_n 0, 1) := by decide +kernel
theorem dX9_ofNode_27 : decode cX9_ofNode 27 = .ok (.getfield 12, 3) := by decide +kernel
theorem dX9_ofNode_30 : decode cX9_ofNode 30 = .ok (.iload_n 1, 1) := by decide +kernel
theorem dX9_ofNode_31 : decode cX9_ofNode 31 = .ok (.invokevirtual 153, 3) := by decide +kernel
theorem dX9_ofNode_34 : decode cX9_ofNode 34 = .ok (.goto 16, 3) := by decide +kernel
theorem dX9_ofNode_37 : decode cX9_ofNode 37 = .ok (.aload_n 0, 1) := by decide +kernel
theorem dX9_ofNode_38 : decode cX9_ofNode 38 = .ok (.getfield 12, 3) := by decide +kernel
theorem dX9_ofNode_41 : decode cX9_ofNode 41 = .ok (.getfield 88, 3) := by decide +kernel
theorem dX9_ofNode_44 : decode cX9_ofNode 44 = .ok (.iload_n 1, 1) := by decide +kernel
theorem dX9_ofNode_45 : decode cX9_ofNode 45 = .ok (.aaload, 1) := by decide +kernel
theorem dX9_ofNode_46 : decode cX9_ofNode 46 = .ok (.iload_n 2, 1) := by decide +kernel
theorem dX9_ofNode_47 : decode cX9_ofNode 47 = .ok (.invokevirtual 156, 3) := by decide +kernel
theorem dX9_ofNode_50 : decode cX9_ofNode 50 = .ok (.ireturn, 1) := by decide +kernel
theorem dX9_load_0 : decode cX9_load 0 = .ok (.aload_n 0, 1) := by decide +kernel
theorem dX9_load_1 : decode cX9_load 1 = .ok (.getfield 12, 3) := by decide +kernel
theorem dX9_load_4 : decode cX9_load 4 = .ok (.iload_n 1, 1) := by decide +kernel
theorem dX9_load_5 : decode cX9_load 5 = .ok (.invokevirtual 85, 3) := by decide +kernel
theorem dX9_load_8 : decode cX9_load 8 = .ok (.invokestatic 51, 3) := by decide +kernel
theorem dX9_load_11 : decode cX9_load 11 = .ok (.aload_n 0, 1) := by decide +kernel
theorem dX9_load_12 : decode cX9_load 12 = .ok (.getfield 21, 3) := by decide +kernel
theorem dX9_load_15 : decode cX9_load 15 = .ok (.invokevirtual 115, 3) := by decide +kernel
theorem dX9_load_18 : decode cX9_load 18 = .ok (.getfield 119, 3) := by decide +kernel
theorem dX9_load_21 : decode cX9_load 21 = .ok (.iload_n 1, 1) := by decide +kernel
theorem dX9_load_22 : decode cX9_load 22 = .ok (.faload, 1) := by decide +kernel
theorem dX9_load_23 : decode cX9_load 23 = .ok (.f2d, 1) := by decide +kernel
theorem dX9_load_24 : decode cX9_load 24 = .ok (.dreturn, 1) := by decide +kernel
theorem dX9_takes_0 : decode cX9_takes 0 = .ok (.aload_n 0, 1) := by decide +kernel
theorem dX9_takes_1 : decode cX9_takes 1 = .ok (.getfield 12, 3) := by decide +kernel
theorem dX9_takes_4 : decode cX9_takes 4 = .ok (.iload_n 1, 1) := by decide +kernel
theorem dX9_takes_5 : decode cX9_takes 5 = .ok (.invokevirtual 85, 3) := by decide +kernel
theorem dX9_takes_8 : decode cX9_takes 8 = .ok (.invokestatic 51, 3) := by decide +kernel
theorem dX9_takes_11 : decode cX9_takes 11 = .ok (.aload_n 0, 1) := by decide +kernel
theorem dX9_takes_12 : decode cX9_takes 12 = .ok (.getfield 21, 3) := by decide +kernel
theorem dX9_takes_15 : decode cX9_takes 15 = .ok (.invokevirtual 115, 3) := by decide +kernel
theorem dX9_takes_18 : decode cX9_takes 18 = .ok (.iload_n 1, 1) := by decide +kernel
theorem dX9_takes_19 : decode cX9_takes 19 = .ok (.iload_n 2, 1) := by decide +kernel
theorem dX9_takes_20 : decode cX9_takes 20 = .ok (.ifCond .eq 7, 3) := by decide +kernel
theorem dX9_takes_23 : decode cX9_takes 23 = .ok (.iconst 0, 1) := by decide +kernel
theorem dX9_takes_24 : decode cX9_takes 24 = .ok (.goto 4, 3) := by decide +kernel
theorem dX9_takes_27 : decode cX9_takes 27 = .ok (.iconst 1, 1) := by decide +kernel
theorem dX9_takes_28 : decode cX9_takes 28 = .ok (.invokevirtual 157, 3) := by decide +kernel
theorem dX9_takes_31 : decode cX9_takes 31 = .ok (.dreturn, 1) := by decide +kernel
theorem dX9_arrival_0 : decode cX9_arrival 0 = .ok (.aload_n 0, 1) := by decide +kernel
theorem dX9_arrival_1 : decode cX9_arrival 1 = .ok (.getfield 12, 3) := by decide +kernel
theorem dX9_arrival_4 : decode cX9_arrival 4 = .ok (.iload_n 1, 1) := by decide +kernel
theorem dX9_arrival_5 : decode cX9_arrival 5 = .ok (.invokevirtual 85, 3) := by decide +kernel
theorem dX9_arrival_8 : decode cX9_arrival 8 = .ok (.ifCond .eq 29, 3) := by decide +kernel
theorem dX9_arrival_11 : decode cX9_arrival 11 = .ok (.aload_n 0, 1) := by decide +kernel
theorem dX9_arrival_12 : decode cX9_arrival 12 = .ok (.getfield 12, 3) := by decide +kernel
theorem dX9_arrival_15 : decode cX9_arrival 15 = .ok (.iload_n 2, 1) := by decide +kernel
theorem dX9_arrival_16 : decode cX9_arrival 16 = .ok (.invokevirtual 85, 3) := by decide +kernel
theorem dX9_arrival_19 : decode cX9_arrival 19 = .ok (.ifCond .eq 18, 3) := by decide +kernel
theorem dX9_arrival_22 : decode cX9_arrival 22 = .ok (.aload_n 0, 1) := by decide +kernel
theorem dX9_arrival_23 : decode cX9_arrival 23 = .ok (.getfield 12, 3) := by decide +kernel
theorem dX9_arrival_26 : decode cX9_arrival 26 = .ok (.iload_n 3, 1) := by decide +kernel
theorem dX9_arrival_27 : decode cX9_arrival 27 = .ok (.invokevirtual 161, 3) := by decide +kernel
theorem dX9_arrival_30 : decode cX9_arrival 30 = .ok (.ifCond .eq 7, 3) := by decide +kernel
theorem dX9_arrival_33 : decode cX9_arrival 33 = .ok (.iconst 1, 1) := by decide +kernel
theorem dX9_arrival_34 : decode cX9_arrival 34 = .ok (.goto 4, 3) := by decide +kernel
theorem dX9_arrival_37 : decode cX9_arrival 37 = .ok (.iconst 0, 1) := by decide +kernel
theorem dX9_arrival_38 : decode cX9_arrival 38 = .ok (.invokestatic 51, 3) := by decide +kernel
theorem dX9_arrival_41 : decode cX9_arrival 41 = .ok (.aload_n 0, 1) := by decide +kernel
theorem dX9_arrival_42 : decode cX9_arrival 42 = .ok (.getfield 12, 3) := by decide +kernel
theorem dX9_arrival_45 : decode cX9_arrival 45 = .ok (.getfield 88, 3) := by decide +kernel
theorem dX9_arrival_48 : decode cX9_arrival 48 = .ok (.iload_n 1, 1) := by decide +kernel
theorem dX9_arrival_49 : decode cX9_arrival 49 = .ok (.aaload, 1) := by decide +kernel
theorem dX9_arrival_50 : decode cX9_arrival 50 = .ok (.invokevirtual 131, 3) := by decide +kernel
theorem dX9_arrival_53 : decode cX9_arrival 53 = .ok (.invokestatic 37, 3) := by decide +kernel
theorem dX9_arrival_56 : decode cX9_arrival 56 = .ok (.aload_n 0, 1) := by decide +kernel
theorem dX9_arrival_57 : decode cX9_arrival 57 = .ok (.getfield 21, 3) := by decide +kernel
theorem dX9_arrival_60 : decode cX9_arrival 60 = .ok (.iload_n 3, 1) := by decide +kernel
theorem dX9_arrival_61 : decode cX9_arrival 61 = .ok (.iload 4, 2) := by decide +kernel
theorem dX9_arrival_63 : decode cX9_arrival 63 = .ok (.invokevirtual 164, 3) := by decide +kernel
theorem dX9_arrival_66 : decode cX9_arrival 66 = .ok (.iload_n 1, 1) := by decide +kernel
theorem dX9_arrival_67 : decode cX9_arrival 67 = .ok (.iload_n 2, 1) := by decide +kernel
theorem dX9_arrival_68 : decode cX9_arrival 68 = .ok (.iload 5, 2) := by decide +kernel
theorem dX9_arrival_70 : decode cX9_arrival 70 = .ok (.ifCond .eq 7, 3) := by decide +kernel
theorem dX9_arrival_73 : decode cX9_arrival 73 = .ok (.iconst 0, 1) := by decide +kernel
theorem dX9_arrival_74 : decode cX9_arrival 74 = .ok (.goto 4, 3) := by decide +kernel
theorem dX9_arrival_77 : decode cX9_arrival 77 = .ok (.iconst 1, 1) := by decide +kernel
theorem dX9_arrival_78 : decode cX9_arrival 78 = .ok (.invokevirtual 168, 3) := by decide +kernel
theorem dX9_arrival_81 : decode cX9_arrival 81 = .ok (.dreturn, 1) := by decide +kernel
theorem dX9_winner_0 : decode cX9_winner 0 = .ok (.aload_n 0, 1) := by decide +kernel
theorem dX9_winner_1 : decode cX9_winner 1 = .ok (.iload_n 1, 1) := by decide +kernel
theorem dX9_winner_2 : decode cX9_winner 2 = .ok (.iload_n 2, 1) := by decide +kernel
theorem dX9_winner_3 : decode cX9_winner 3 = .ok (.invokevirtual 174, 3) := by decide +kernel
theorem dX9_winner_6 : decode cX9_winner 6 = .ok (.aload_n 0, 1) := by decide +kernel
theorem dX9_winner_7 : decode cX9_winner 7 = .ok (.getfield 12, 3) := by decide +kernel
theorem dX9_winner_10 : decode cX9_winner 10 = .ok (.iload_n 1, 1) := by decide +kernel
theorem dX9_winner_11 : decode cX9_winner 11 = .ok (.iload_n 2, 1) := by decide +kernel
theorem dX9_winner_12 : decode cX9_winner 12 = .ok (.invokevirtual 178, 3) := by decide +kernel
theorem dX9_winner_15 : decode cX9_winner 15 = .ok (.ireturn, 1) := by decide +kernel
theorem dX9_left_0 : decode cX9_left 0 = .ok (.aload_n 0, 1) := by decide +kernel
theorem dX9_left_1 : decode cX9_left 1 = .ok (.getfield 12, 3) := by decide +kernel
theorem dX9_left_4 : decode cX9_left 4 = .ok (.iload_n 3, 1) := by decide +kernel
theorem dX9_left_5 : decode cX9_left 5 = .ok (.invokevirtual 161, 3) := by decide +kernel
theorem dX9_left_8 : decode cX9_left 8 = .ok (.invokestatic 51, 3) := by decide +kernel
theorem dX9_left_11 : decode cX9_left 11 = .ok (.aload_n 0, 1) := by decide +kernel
theorem dX9_left_12 : decode cX9_left 12 = .ok (.iload_n 1, 1) := by decide +kernel
theorem dX9_left_13 : decode cX9_left 13 = .ok (.iload_n 2, 1) := by decide +kernel
theorem dX9_left_14 : decode cX9_left 14 = .ok (.invokevirtual 174, 3) := by decide +kernel
theorem dX9_left_17 : decode cX9_left 17 = .ok (.aload_n 0, 1) := by decide +kernel
theorem dX9_left_18 : decode cX9_left 18 = .ok (.getfield 21, 3) := by decide +kernel
theorem dX9_left_21 : decode cX9_left 21 = .ok (.iload_n 3, 1) := by decide +kernel
theorem dX9_left_22 : decode cX9_left 22 = .ok (.iload 4, 2) := by decide +kernel
theorem dX9_left_24 : decode cX9_left 24 = .ok (.invokevirtual 164, 3) := by decide +kernel
theorem dX9_left_27 : decode cX9_left 27 = .ok (.iload_n 1, 1) := by decide +kernel
theorem dX9_left_28 : decode cX9_left 28 = .ok (.iload_n 2, 1) := by decide +kernel
theorem dX9_left_29 : decode cX9_left 29 = .ok (.invokevirtual 181, 3) := by decide +kernel
theorem dX9_left_32 : decode cX9_left 32 = .ok (.dreturn, 1) := by decide +kernel
theorem dX9_leftAt_0 : decode cX9_leftAt 0 = .ok (.aload_n 0, 1) := by decide +kernel
theorem dX9_leftAt_1 : decode cX9_leftAt 1 = .ok (.getfield 12, 3) := by decide +kernel
theorem dX9_leftAt_4 : decode cX9_leftAt 4 = .ok (.iload_n 1, 1) := by decide +kernel
theorem dX9_leftAt_5 : decode cX9_leftAt 5 = .ok (.invokevirtual 85, 3) := by decide +kernel
theorem dX9_leftAt_8 : decode cX9_leftAt 8 = .ok (.ifCond .eq 18, 3) := by decide +kernel
theorem dX9_leftAt_11 : decode cX9_leftAt 11 = .ok (.aload_n 0, 1) := by decide +kernel
theorem dX9_leftAt_12 : decode cX9_leftAt 12 = .ok (.getfield 12, 3) := by decide +kernel
theorem dX9_leftAt_15 : decode cX9_leftAt 15 = .ok (.iload_n 2, 1) := by decide +kernel
theorem dX9_leftAt_16 : decode cX9_leftAt 16 = .ok (.invokevirtual 161, 3) := by decide +kernel
theorem dX9_leftAt_19 : decode cX9_leftAt 19 = .ok (.ifCond .eq 7, 3) := by decide +kernel
theorem dX9_leftAt_22 : decode cX9_leftAt 22 = .ok (.iconst 1, 1) := by decide +kernel
theorem dX9_leftAt_23 : decode cX9_leftAt 23 = .ok (.goto 4, 3) := by decide +kernel
theorem dX9_leftAt_26 : decode cX9_leftAt 26 = .ok (.iconst 0, 1) := by decide +kernel
theorem dX9_leftAt_27 : decode cX9_leftAt 27 = .ok (.invokestatic 51, 3) := by decide +kernel
theorem dX9_leftAt_30 : decode cX9_leftAt 30 = .ok (.aload_n 0, 1) := by decide +kernel
theorem dX9_leftAt_31 : decode cX9_leftAt 31 = .ok (.getfield 12, 3) := by decide +kernel
theorem dX9_leftAt_34 : decode cX9_leftAt 34 = .ok (.getfield 88, 3) := by decide +kernel
theorem dX9_leftAt_37 : decode cX9_leftAt 37 = .ok (.iload_n 1, 1) := by decide +kernel
theorem dX9_leftAt_38 : decode cX9_leftAt 38 = .ok (.aaload, 1) := by decide +kernel
theorem dX9_leftAt_39 : decode cX9_leftAt 39 = .ok (.invokevirtual 135, 3) := by decide +kernel
theorem dX9_leftAt_42 : decode cX9_leftAt 42 = .ok (.invokestatic 37, 3) := by decide +kernel
theorem dX9_leftAt_45 : decode cX9_leftAt 45 = .ok (.aload_n 0, 1) := by decide +kernel
theorem dX9_leftAt_46 : decode cX9_leftAt 46 = .ok (.getfield 21, 3) := by decide +kernel
theorem dX9_leftAt_49 : decode cX9_leftAt 49 = .ok (.iload_n 2, 1) := by decide +kernel
theorem dX9_leftAt_50 : decode cX9_leftAt 50 = .ok (.iload_n 3, 1) := by decide +kernel
theorem dX9_leftAt_51 : decode cX9_leftAt 51 = .ok (.invokevirtual 164, 3) := by decide +kernel
theorem dX9_leftAt_54 : decode cX9_leftAt 54 = .ok (.iload_n 1, 1) := by decide +kernel
theorem dX9_leftAt_55 : decode cX9_leftAt 55 = .ok (.invokevirtual 184, 3) := by decide +kernel
theorem dX9_leftAt_58 : decode cX9_leftAt 58 = .ok (.dreturn, 1) := by decide +kernel
theorem dX9_borrow_0 : decode cX9_borrow 0 = .ok (.aload_n 0, 1) := by decide +kernel
theorem dX9_borrow_1 : decode cX9_borrow 1 = .ok (.getfield 12, 3) := by decide +kernel
theorem dX9_borrow_4 : decode cX9_borrow 4 = .ok (.iload_n 1, 1) := by decide +kernel
theorem dX9_borrow_5 : decode cX9_borrow 5 = .ok (.invokevirtual 85, 3) := by decide +kernel
theorem dX9_borrow_8 : decode cX9_borrow 8 = .ok (.ifCond .eq 18, 3) := by decide +kernel
theorem dX9_borrow_11 : decode cX9_borrow 11 = .ok (.aload_n 0, 1) := by decide +kernel
theorem dX9_borrow_12 : decode cX9_borrow 12 = .ok (.getfield 12, 3) := by decide +kernel
theorem dX9_borrow_15 : decode cX9_borrow 15 = .ok (.iload_n 2, 1) := by decide +kernel
theorem dX9_borrow_16 : decode cX9_borrow 16 = .ok (.invokevirtual 161, 3) := by decide +kernel
theorem dX9_borrow_19 : decode cX9_borrow 19 = .ok (.ifCond .eq 7, 3) := by decide +kernel
theorem dX9_borrow_22 : decode cX9_borrow 22 = .ok (.iconst 1, 1) := by decide +kernel
theorem dX9_borrow_23 : decode cX9_borrow 23 = .ok (.goto 4, 3) := by decide +kernel
theorem dX9_borrow_26 : decode cX9_borrow 26 = .ok (.iconst 0, 1) := by decide +kernel
theorem dX9_borrow_27 : decode cX9_borrow 27 = .ok (.invokestatic 51, 3) := by decide +kernel
theorem dX9_borrow_30 : decode cX9_borrow 30 = .ok (.aload_n 0, 1) := by decide +kernel
theorem dX9_borrow_31 : decode cX9_borrow 31 = .ok (.getfield 12, 3) := by decide +kernel
theorem dX9_borrow_34 : decode cX9_borrow 34 = .ok (.getfield 88, 3) := by decide +kernel
theorem dX9_borrow_37 : decode cX9_borrow 37 = .ok (.iload_n 1, 1) := by decide +kernel
theorem dX9_borrow_38 : decode cX9_borrow 38 = .ok (.aaload, 1) := by decide +kernel
theorem dX9_borrow_39 : decode cX9_borrow 39 = .ok (.getfield 92, 3) := by decide +kernel
theorem dX9_borrow_42 : decode cX9_borrow 42 = .ok (.bipush 7, 2) := by decide +kernel
theorem dX9_borrow_44 : decode cX9_borrow 44 = .ok (.if_icmp .ne 7, 3) := by decide +kernel
theorem dX9_borrow_47 : decode cX9_borrow 47 = .ok (.iconst 1, 1) := by decide +kernel
theorem dX9_borrow_48 : decode cX9_borrow 48 = .ok (.goto 4, 3) := by decide +kernel
theorem dX9_borrow_51 : decode cX9_borrow 51 = .ok (.iconst 0, 1) := by decide +kernel
theorem dX9_borrow_52 : decode cX9_borrow 52 = .ok (.invokestatic 37, 3) := by decide +kernel
theorem dX9_borrow_55 : decode cX9_borrow 55 = .ok (.aload_n 0, 1) := by decide +kernel
theorem dX9_borrow_56 : decode cX9_borrow 56 = .ok (.getfield 21, 3) := by decide +kernel
theorem dX9_borrow_59 : decode cX9_borrow 59 = .ok (.iload_n 2, 1) := by decide +kernel
theorem dX9_borrow_60 : decode cX9_borrow 60 = .ok (.iconst 1, 1) := by decide +kernel
theorem dX9_borrow_61 : decode cX9_borrow 61 = .ok (.invokevirtual 164, 3) := by decide +kernel
theorem dX9_borrow_64 : decode cX9_borrow 64 = .ok (.getfield 188, 3) := by decide +kernel
theorem dX9_borrow_67 : decode cX9_borrow 67 = .ok (.iload_n 1, 1) := by decide +kernel
theorem dX9_borrow_68 : decode cX9_borrow 68 = .ok (.daload, 1) := by decide +kernel
theorem dX9_borrow_69 : decode cX9_borrow 69 = .ok (.dreturn, 1) := by decide +kernel
theorem dX9_ways_0 : decode cX9_ways 0 = .ok (.aload_n 0, 1) := by decide +kernel
theorem dX9_ways_1 : decode cX9_ways 1 = .ok (.iload_n 1, 1) := by decide +kernel
theorem dX9_ways_2 : decode cX9_ways 2 = .ok (.iload_n 2, 1) := by decide +kernel
theorem dX9_ways_3 : decode cX9_ways 3 = .ok (.invokevirtual 174, 3) := by decide +kernel
theorem dX9_ways_6 : decode cX9_ways 6 = .ok (.aload_n 0, 1) := by decide +kernel
theorem dX9_ways_7 : decode cX9_ways 7 = .ok (.getfield 12, 3) := by decide +kernel
theorem dX9_ways_10 : decode cX9_ways 10 = .ok (.getfield 88, 3) := by decide +kernel
theorem dX9_ways_13 : decode cX9_ways 13 = .ok (.iload_n 2, 1) := by decide +kernel
theorem dX9_ways_14 : decode cX9_ways 14 = .ok (.aaload, 1) := by decide +kernel
theorem dX9_ways_15 : decode cX9_ways 15 = .ok (.getfield 101, 3) := by decide +kernel
theorem dX9_ways_18 : decode cX9_ways 18 = .ok (.istore_n 3, 1) := by decide +kernel
theorem dX9_ways_19 : decode cX9_ways 19 = .ok (.iload_n 3, 1) := by decide +kernel
theorem dX9_ways_20 : decode cX9_ways 20 = .ok (.iconst (-1), 1) := by decide +kernel
theorem dX9_ways_21 : decode cX9_ways 21 = .ok (.if_icmp .ne 7, 3) := by decide +kernel
theorem dX9_ways_24 : decode cX9_ways 24 = .ok (.iconst 0, 1) := by decide +kernel
theorem dX9_ways_25 : decode cX9_ways 25 = .ok (.goto 15, 3) := by decide +kernel
theorem dX9_ways_28 : decode cX9_ways 28 = .ok (.aload_n 0, 1) := by decide +kernel
theorem dX9_ways_29 : decode cX9_ways 29 = .ok (.getfield 21, 3) := by decide +kernel
theorem dX9_ways_32 : decode cX9_ways 32 = .ok (.invokevirtual 192, 3) := by decide +kernel
theorem dX9_ways_35 : decode cX9_ways 35 = .ok (.iload_n 1, 1) := by decide +kernel
theorem dX9_ways_36 : decode cX9_ways 36 = .ok (.iload_n 3, 1) := by decide +kernel
theorem dX9_ways_37 : decode cX9_ways 37 = .ok (.invokevirtual 196, 3) := by decide +kernel
theorem dX9_ways_40 : decode cX9_ways 40 = .ok (.ireturn, 1) := by decide +kernel
theorem dX9_worst_0 : decode cX9_worst 0 = .ok (.aload_n 0, 1) := by decide +kernel
theorem dX9_worst_1 : decode cX9_worst 1 = .ok (.getfield 12, 3) := by decide +kernel
theorem dX9_worst_4 : decode cX9_worst 4 = .ok (.iload_n 1, 1) := by decide +kernel
theorem dX9_worst_5 : decode cX9_worst 5 = .ok (.invokevirtual 85, 3) := by decide +kernel
theorem dX9_worst_8 : decode cX9_worst 8 = .ok (.invokestatic 51, 3) := by decide +kernel
theorem dX9_worst_11 : decode cX9_worst 11 = .ok (.aload_n 0, 1) := by decide +kernel
theorem dX9_worst_12 : decode cX9_worst 12 = .ok (.getfield 12, 3) := by decide +kernel
theorem dX9_worst_15 : decode cX9_worst 15 = .ok (.getfield 88, 3) := by decide +kernel
theorem dX9_worst_18 : decode cX9_worst 18 = .ok (.iload_n 1, 1) := by decide +kernel
theorem dX9_worst_19 : decode cX9_worst 19 = .ok (.aaload, 1) := by decide +kernel
theorem dX9_worst_20 : decode cX9_worst 20 = .ok (.invokevirtual 135, 3) := by decide +kernel
theorem dX9_worst_23 : decode cX9_worst 23 = .ok (.ifCond .eq 17, 3) := by decide +kernel
theorem dX9_worst_26 : decode cX9_worst 26 = .ok (.iload_n 2, 1) := by decide +kernel
theorem dX9_worst_27 : decode cX9_worst 27 = .ok (.iconst 0, 1) := by decide +kernel
theorem dX9_worst_28 : decode cX9_worst 28 = .ok (.bipush 15, 2) := by decide +kernel
theorem dX9_worst_30 : decode cX9_worst 30 = .ok (.invokestatic 33, 3) := by decide +kernel
theorem dX9_worst_33 : decode cX9_worst 33 = .ok (.ifCond .eq 7, 3) := by decide +kernel
theorem dX9_worst_36 : decode cX9_worst 36 = .ok (.iconst 1, 1) := by decide +kernel
theorem dX9_worst_37 : decode cX9_worst 37 = .ok (.goto 4, 3) := by decide +kernel
theorem dX9_worst_40 : decode cX9_worst 40 = .ok (.iconst 0, 1) := by decide +kernel
theorem dX9_worst_41 : decode cX9_worst 41 = .ok (.invokestatic 37, 3) := by decide +kernel
theorem dX9_worst_44 : decode cX9_worst 44 = .ok (.aload_n 0, 1) := by decide +kernel
theorem dX9_worst_45 : decode cX9_worst 45 = .ok (.getfield 21, 3) := by decide +kernel
theorem dX9_worst_48 : decode cX9_worst 48 = .ok (.iconst 0, 1) := by decide +kernel
theorem dX9_worst_49 : decode cX9_worst 49 = .ok (.iconst 1, 1) := by decide +kernel
theorem dX9_worst_50 : decode cX9_worst 50 = .ok (.invokevirtual 164, 3) := by decide +kernel
theorem dX9_worst_53 : decode cX9_worst 53 = .ok (.iload_n 1, 1) := by decide +kernel
theorem dX9_worst_54 : decode cX9_worst 54 = .ok (.iload_n 2, 1) := by decide +kernel
theorem dX9_worst_55 : decode cX9_worst 55 = .ok (.invokevirtual 201, 3) := by decide +kernel
theorem dX9_worst_58 : decode cX9_worst 58 = .ok (.ireturn, 1) := by decide +kernel
theorem dX9_many_0 : decode cX9_many 0 = .ok (.iload_n 1, 1) := by decide +kernel
theorem dX9_many_1 : decode cX9_many 1 = .ok (.iconst 0, 1) := by decide +kernel
theorem dX9_many_2 : decode cX9_many 2 = .ok (.bipush 10, 2) := by decide +kernel
theorem dX9_many_4 : decode cX9_many 4 = .ok (.invokestatic 33, 3) := by decide +kernel
theorem dX9_many_7 : decode cX9_many 7 = .ok (.invokestatic 37, 3) := by decide +kernel
theorem dX9_many_10 : decode cX9_many 10 = .ok (.iload_n 1, 1) := by decide +kernel
theorem dX9_many_11 : decode cX9_many 11 = .ok (.tableswitch 151 0 9 #[53, 61, 69, 77, 85, 96, 105, 114, 126, 138], 53) := by decide +kernel
theorem dX9_many_64 : decode cX9_many 64 = .ok (.aload_n 0, 1) := by decide +kernel
theorem dX9_many_65 : decode cX9_many 65 = .ok (.getfield 12, 3) := by decide +kernel
theorem dX9_many_68 : decode cX9_many 68 = .ok (.getfield 25, 3) := by decide +kernel
theorem dX9_many_71 : decode cX9_many 71 = .ok (.ireturn, 1) := by decide +kernel
theorem dX9_many_72 : decode cX9_many 72 = .ok (.aload_n 0, 1) := by decide +kernel
theorem dX9_many_73 : decode cX9_many 73 = .ok (.getfield 12, 3) := by decide +kernel
theorem dX9_many_76 : decode cX9_many 76 = .ok (.getfield 75, 3) := by decide +kernel
theorem dX9_many_79 : decode cX9_many 79 = .ok (.ireturn, 1) := by decide +kernel
theorem dX9_many_80 : decode cX9_many 80 = .ok (.aload_n 0, 1) := by decide +kernel
theorem dX9_many_81 : decode cX9_many 81 = .ok (.getfield 12, 3) := by decide +kernel
theorem dX9_many_84 : decode cX9_many 84 = .ok (.getfield 82, 3) := by decide +kernel
theorem dX9_many_87 : decode cX9_many 87 = .ok (.ireturn, 1) := by decide +kernel
theorem dX9_many_88 : decode cX9_many 88 = .ok (.aload_n 0, 1) := by decide +kernel
theorem dX9_many_89 : decode cX9_many 89 = .ok (.getfield 12, 3) := by decide +kernel
theorem dX9_many_92 : decode cX9_many 92 = .ok (.getfield 128, 3) := by decide +kernel
theorem dX9_many_95 : decode cX9_many 95 = .ok (.ireturn, 1) := by decide +kernel
theorem dX9_many_96 : decode cX9_many 96 = .ok (.aload_n 0, 1) := by decide +kernel
theorem dX9_many_97 : decode cX9_many 97 = .ok (.getfield 21, 3) := by decide +kernel
theorem dX9_many_100 : decode cX9_many 100 = .ok (.invokevirtual 192, 3) := by decide +kernel
theorem dX9_many_103 : decode cX9_many 103 = .ok (.invokevirtual 204, 3) := by decide +kernel
theorem dX9_many_106 : decode cX9_many 106 = .ok (.ireturn, 1) := by decide +kernel
theorem dX9_many_107 : decode cX9_many 107 = .ok (.aload_n 0, 1) := by decide +kernel
theorem dX9_many_108 : decode cX9_many 108 = .ok (.getfield 21, 3) := by decide +kernel
theorem dX9_many_111 : decode cX9_many 111 = .ok (.iconst 1, 1) := by decide +kernel
theorem dX9_many_112 : decode cX9_many 112 = .ok (.invokevirtual 208, 3) := by decide +kernel
theorem dX9_many_115 : decode cX9_many 115 = .ok (.ireturn, 1) := by decide +kernel
theorem dX9_many_116 : decode cX9_many 116 = .ok (.aload_n 0, 1) := by decide +kernel
theorem dX9_many_117 : decode cX9_many 117 = .ok (.getfield 21, 3) := by decide +kernel
theorem dX9_many_120 : decode cX9_many 120 = .ok (.iconst 0, 1) := by decide +kernel
theorem dX9_many_121 : decode cX9_many 121 = .ok (.invokevirtual 208, 3) := by decide +kernel
theorem dX9_many_124 : decode cX9_many 124 = .ok (.ireturn, 1) := by decide +kernel
theorem dX9_many_125 : decode cX9_many 125 = .ok (.aload_n 0, 1) := by decide +kernel
theorem dX9_many_126 : decode cX9_many 126 = .ok (.getfield 21, 3) := by decide +kernel
theorem dX9_many_129 : decode cX9_many 129 = .ok (.invokevirtual 192, 3) := by decide +kernel
theorem dX9_many_132 : decode cX9_many 132 = .ok (.iconst 0, 1) := by decide +kernel
theorem dX9_many_133 : decode cX9_many 133 = .ok (.invokevirtual 212, 3) := by decide +kernel
theorem dX9_many_136 : decode cX9_many 136 = .ok (.ireturn, 1) := by decide +kernel
theorem dX9_many_137 : decode cX9_many 137 = .ok (.aload_n 0, 1) := by decide +kernel
theorem dX9_many_138 : decode cX9_many 138 = .ok (.getfield 21, 3) := by decide +kernel
theorem dX9_many_141 : decode cX9_many 141 = .ok (.invokevirtual 192, 3) := by decide +kernel
theorem dX9_many_144 : decode cX9_many 144 = .ok (.iconst 1, 1) := by decide +kernel
theorem dX9_many_145 : decode cX9_many 145 = .ok (.invokevirtual 212, 3) := by decide +kernel
theorem dX9_many_148 : decode cX9_many 148 = .ok (.ireturn, 1) := by decide +kernel
theorem dX9_many_149 : decode cX9_many 149 = .ok (.aload_n 0, 1) := by decide +kernel
theorem dX9_many_150 : decode cX9_many 150 = .ok (.getfield 142, 3) := by decide +kernel
theorem dX9_many_153 : decode cX9_many 153 = .ok (.ifCond .eq 7, 3) := by decide +kernel
theorem dX9_many_156 : decode cX9_many 156 = .ok (.iconst 1, 1) := by decide +kernel
theorem dX9_many_157 : decode cX9_many 157 = .ok (.goto 4, 3) := by decide +kernel
theorem dX9_many_160 : decode cX9_many 160 = .ok (.iconst 0, 1) := by decide +kernel
theorem dX9_many_161 : decode cX9_many 161 = .ok (.ireturn, 1) := by decide +kernel
theorem dX9_many_162 : decode cX9_many 162 = .ok (.aload_n 0, 1) := by decide +kernel
theorem dX9_many_163 : decode cX9_many 163 = .ok (.getfield 146, 3) := by decide +kernel
theorem dX9_many_166 : decode cX9_many 166 = .ok (.ireturn, 1) := by decide +kernel
theorem dX9_least_0 : decode cX9_least 0 = .ok (.aload_n 0, 1) := by decide +kernel
theorem dX9_least_1 : decode cX9_least 1 = .ok (.getfield 21, 3) := by decide +kernel
theorem dX9_least_4 : decode cX9_least 4 = .ok (.iload_n 1, 1) := by decide +kernel
theorem dX9_least_5 : decode cX9_least 5 = .ok (.invokevirtual 215, 3) := by decide +kernel
theorem dX9_least_8 : decode cX9_least 8 = .ok (.dreturn, 1) := by decide +kernel
theorem dX9_wouldLeave_0 : decode cX9_wouldLeave 0 = .ok (.aload_n 0, 1) := by decide +kernel
theorem dX9_wouldLeave_1 : decode cX9_wouldLeave 1 = .ok (.getfield 12, 3) := by decide +kernel
theorem dX9_wouldLeave_4 : decode cX9_wouldLeave 4 = .ok (.iload_n 1, 1) := by decide +kernel
theorem dX9_wouldLeave_5 : decode cX9_wouldLeave 5 = .ok (.invokevirtual 85, 3) := by decide +kernel
theorem dX9_wouldLeave_8 : decode cX9_wouldLeave 8 = .ok (.invokestatic 51, 3) := by decide +kernel
theorem dX9_wouldLeave_11 : decode cX9_wouldLeave 11 = .ok (.iload_n 2, 1) := by decide +kernel
theorem dX9_wouldLeave_12 : decode cX9_wouldLeave 12 = .ok (.invokestatic 104, 3) := by decide +kernel
theorem dX9_wouldLeave_15 : decode cX9_wouldLeave 15 = .ok (.invokestatic 37, 3) := by decide +kernel
theorem dX9_wouldLeave_18 : decode cX9_wouldLeave 18 = .ok (.aload_n 0, 1) := by decide +kernel
theorem dX9_wouldLeave_19 : decode cX9_wouldLeave 19 = .ok (.getfield 21, 3) := by decide +kernel
theorem dX9_wouldLeave_22 : decode cX9_wouldLeave 22 = .ok (.iload_n 1, 1) := by decide +kernel
theorem dX9_wouldLeave_23 : decode cX9_wouldLeave 23 = .ok (.iload_n 2, 1) := by decide +kernel
theorem dX9_wouldLeave_24 : decode cX9_wouldLeave 24 = .ok (.invokevirtual 219, 3) := by decide +kernel
theorem dX9_wouldLeave_27 : decode cX9_wouldLeave 27 = .ok (.dreturn, 1) := by decide +kernel
theorem dX9_best_0 : decode cX9_best 0 = .ok (.aload_n 0, 1) := by decide +kernel
theorem dX9_best_1 : decode cX9_best 1 = .ok (.getfield 21, 3) := by decide +kernel
theorem dX9_best_4 : decode cX9_best 4 = .ok (.invokevirtual 222, 3) := by decide +kernel
theorem dX9_best_7 : decode cX9_best 7 = .ok (.ireturn, 1) := by decide +kernel
theorem dX9_isIdle_0 : decode cX9_isIdle 0 = .ok (.aload_n 0, 1) := by decide +kernel
theorem dX9_isIdle_1 : decode cX9_isIdle 1 = .ok (.getfield 12, 3) := by decide +kernel
theorem dX9_isIdle_4 : decode cX9_isIdle 4 = .ok (.iload_n 1, 1) := by decide +kernel
theorem dX9_isIdle_5 : decode cX9_isIdle 5 = .ok (.invokevirtual 161, 3) := by decide +kernel
theorem dX9_isIdle_8 : decode cX9_isIdle 8 = .ok (.invokestatic 51, 3) := by decide +kernel
theorem dX9_isIdle_11 : decode cX9_isIdle 11 = .ok (.iconst 0, 1) := by decide +kernel
theorem dX9_isIdle_12 : decode cX9_isIdle 12 = .ok (.istore_n 2, 1) := by decide +kernel
theorem dX9_isIdle_13 : decode cX9_isIdle 13 = .ok (.iload_n 2, 1) := by decide +kernel
theorem dX9_isIdle_14 : decode cX9_isIdle 14 = .ok (.aload_n 0, 1) := by decide +kernel
theorem dX9_isIdle_15 : decode cX9_isIdle 15 = .ok (.getfield 12, 3) := by decide +kernel
theorem dX9_isIdle_18 : decode cX9_isIdle 18 = .ok (.getfield 75, 3) := by decide +kernel
theorem dX9_isIdle_21 : decode cX9_isIdle 21 = .ok (.if_icmp .ge 28, 3) := by decide +kernel
theorem dX9_isIdle_24 : decode cX9_isIdle 24 = .ok (.iload_n 2, 1) := by decide +kernel
theorem dX9_isIdle_25 : decode cX9_isIdle 25 = .ok (.iload_n 1, 1) := by decide +kernel
theorem dX9_isIdle_26 : decode cX9_isIdle 26 = .ok (.if_icmp .eq 17, 3) := by decide +kernel
theorem dX9_isIdle_29 : decode cX9_isIdle 29 = .ok (.aload_n 0, 1) := by decide +kernel
theorem dX9_isIdle_30 : decode cX9_isIdle 30 = .ok (.getfield 21, 3) := by decide +kernel
theorem dX9_isIdle_33 : decode cX9_isIdle 33 = .ok (.iload_n 2, 1) := by decide +kernel
theorem dX9_isIdle_34 : decode cX9_isIdle 34 = .ok (.iload_n 1, 1) := by decide +kernel
theorem dX9_isIdle_35 : decode cX9_isIdle 35 = .ok (.invokevirtual 225, 3) := by decide +kernel
theorem dX9_isIdle_38 : decode cX9_isIdle 38 = .ok (.ifCond .eq 5, 3) := by decide +kernel
theorem dX9_isIdle_41 : decode cX9_isIdle 41 = .ok (.iconst 1, 1) := by decide +kernel
theorem dX9_isIdle_42 : decode cX9_isIdle 42 = .ok (.ireturn, 1) := by decide +kernel
theorem dX9_isIdle_43 : decode cX9_isIdle 43 = .ok (.iinc 2 1, 3) := by decide +kernel
theorem dX9_isIdle_46 : decode cX9_isIdle 46 = .ok (.goto (-33), 3) := by decide +kernel
theorem dX9_isIdle_49 : decode cX9_isIdle 49 = .ok (.iconst 0, 1) := by decide +kernel
theorem dX9_isIdle_50 : decode cX9_isIdle 50 = .ok (.ireturn, 1) := by decide +kernel
theorem dX9_digest_0 : decode cX9_digest 0 = .ok (.ldc2_w 229, 3) := by decide +kernel
theorem dX9_digest_3 : decode cX9_digest 3 = .ok (.lstore_n 1, 1) := by decide +kernel
theorem dX9_digest_4 : decode cX9_digest 4 = .ok (.iconst 0, 1) := by decide +kernel
theorem dX9_digest_5 : decode cX9_digest 5 = .ok (.istore_n 3, 1) := by decide +kernel
theorem dX9_digest_6 : decode cX9_digest 6 = .ok (.iload_n 3, 1) := by decide +kernel
theorem dX9_digest_7 : decode cX9_digest 7 = .ok (.bipush 10, 2) := by decide +kernel
theorem dX9_digest_9 : decode cX9_digest 9 = .ok (.if_icmp .gt 22, 3) := by decide +kernel
theorem dX9_digest_12 : decode cX9_digest 12 = .ok (.lload_n 1, 1) := by decide +kernel
theorem dX9_digest_13 : decode cX9_digest 13 = .ok (.ldc2_w 231, 3) := by decide +kernel
theorem dX9_digest_16 : decode cX9_digest 16 = .ok (.lmul, 1) := by decide +kernel
theorem dX9_digest_17 : decode cX9_digest 17 = .ok (.aload_n 0, 1) := by decide +kernel
theorem dX9_digest_18 : decode cX9_digest 18 = .ok (.iload_n 3, 1) := by decide +kernel
theorem dX9_digest_19 : decode cX9_digest 19 = .ok (.invokevirtual 233, 3) := by decide +kernel
theorem dX9_digest_22 : decode cX9_digest 22 = .ok (.i2l, 1) := by decide +kernel
theorem dX9_digest_23 : decode cX9_digest 23 = .ok (.ladd, 1) := by decide +kernel
theorem dX9_digest_24 : decode cX9_digest 24 = .ok (.lstore_n 1, 1) := by decide +kernel
theorem dX9_digest_25 : decode cX9_digest 25 = .ok (.iinc 3 1, 3) := by decide +kernel
theorem dX9_digest_28 : decode cX9_digest 28 = .ok (.goto (-22), 3) := by decide +kernel
theorem dX9_digest_31 : decode cX9_digest 31 = .ok (.iconst 0, 1) := by decide +kernel
theorem dX9_digest_32 : decode cX9_digest 32 = .ok (.istore_n 3, 1) := by decide +kernel
theorem dX9_digest_33 : decode cX9_digest 33 = .ok (.iload_n 3, 1) := by decide +kernel
theorem dX9_digest_34 : decode cX9_digest 34 = .ok (.aload_n 0, 1) := by decide +kernel
theorem dX9_digest_35 : decode cX9_digest 35 = .ok (.getfield 12, 3) := by decide +kernel
theorem dX9_digest_38 : decode cX9_digest 38 = .ok (.getfield 25, 3) := by decide +kernel
theorem dX9_digest_41 : decode cX9_digest 41 = .ok (.if_icmp .ge 39, 3) := by decide +kernel
theorem dX9_digest_44 : decode cX9_digest 44 = .ok (.iconst 0, 1) := by decide +kernel
theorem dX9_digest_45 : decode cX9_digest 45 = .ok (.istore 4, 2) := by decide +kernel
theorem dX9_digest_47 : decode cX9_digest 47 = .ok (.iload 4, 2) := by decide +kernel
theorem dX9_digest_49 : decode cX9_digest 49 = .ok (.iconst 4, 1) := by decide +kernel
theorem dX9_digest_50 : decode cX9_digest 50 = .ok (.if_icmp .gt 24, 3) := by decide +kernel
theorem dX9_digest_53 : decode cX9_digest 53 = .ok (.lload_n 1, 1) := by decide +kernel
theorem dX9_digest_54 : decode cX9_digest 54 = .ok (.ldc2_w 231, 3) := by decide +kernel
theorem dX9_digest_57 : decode cX9_digest 57 = .ok (.lmul, 1) := by decide +kernel
theorem dX9_digest_58 : decode cX9_digest 58 = .ok (.aload_n 0, 1) := by decide +kernel
theorem dX9_digest_59 : decode cX9_digest 59 = .ok (.iload_n 3, 1) := by decide +kernel
theorem dX9_digest_60 : decode cX9_digest 60 = .ok (.iload 4, 2) := by decide +kernel
theorem dX9_digest_62 : decode cX9_digest 62 = .ok (.invokevirtual 236, 3) := by decide +kernel
theorem dX9_digest_65 : decode cX9_digest 65 = .ok (.i2l, 1) := by decide +kernel
theorem dX9_digest_66 : decode cX9_digest 66 = .ok (.ladd, 1) := by decide +kernel
theorem dX9_digest_67 : decode cX9_digest 67 = .ok (.lstore_n 1, 1) := by decide +kernel
theorem dX9_digest_68 : decode cX9_digest 68 = .ok (.iinc 4 1, 3) := by decide +kernel
theorem dX9_digest_71 : decode cX9_digest 71 = .ok (.goto (-24), 3) := by decide +kernel
theorem dX9_digest_74 : decode cX9_digest 74 = .ok (.iinc 3 1, 3) := by decide +kernel
theorem dX9_digest_77 : decode cX9_digest 77 = .ok (.goto (-44), 3) := by decide +kernel
theorem dX9_digest_80 : decode cX9_digest 80 = .ok (.iconst 0, 1) := by decide +kernel
theorem dX9_digest_81 : decode cX9_digest 81 = .ok (.istore_n 3, 1) := by decide +kernel
theorem dX9_digest_82 : decode cX9_digest 82 = .ok (.iload_n 3, 1) := by decide +kernel
theorem dX9_digest_83 : decode cX9_digest 83 = .ok (.aload_n 0, 1) := by decide +kernel
theorem dX9_digest_84 : decode cX9_digest 84 = .ok (.getfield 12, 3) := by decide +kernel
theorem dX9_digest_87 : decode cX9_digest 87 = .ok (.getfield 82, 3) := by decide +kernel
theorem dX9_digest_90 : decode cX9_digest 90 = .ok (.if_icmp .ge 16, 3) := by decide +kernel
theorem dX9_digest_93 : decode cX9_digest 93 = .ok (.aload_n 0, 1) := by decide +kernel
theorem dX9_digest_94 : decode cX9_digest 94 = .ok (.lload_n 1, 1) := by decide +kernel
theorem dX9_digest_95 : decode cX9_digest 95 = .ok (.iload_n 3, 1) := by decide +kernel
theorem dX9_digest_96 : decode cX9_digest 96 = .ok (.invokevirtual 239, 3) := by decide +kernel
theorem dX9_digest_99 : decode cX9_digest 99 = .ok (.lstore_n 1, 1) := by decide +kernel
theorem dX9_digest_100 : decode cX9_digest 100 = .ok (.iinc 3 1, 3) := by decide +kernel
theorem dX9_digest_103 : decode cX9_digest 103 = .ok (.goto (-21), 3) := by decide +kernel
theorem dX9_digest_106 : decode cX9_digest 106 = .ok (.lload_n 1, 1) := by decide +kernel
theorem dX9_digest_107 : decode cX9_digest 107 = .ok (.ldc2_w 231, 3) := by decide +kernel
theorem dX9_digest_110 : decode cX9_digest 110 = .ok (.lmul, 1) := by decide +kernel
theorem dX9_digest_111 : decode cX9_digest 111 = .ok (.aload_n 0, 1) := by decide +kernel
theorem dX9_digest_112 : decode cX9_digest 112 = .ok (.getfield 21, 3) := by decide +kernel
theorem dX9_digest_115 : decode cX9_digest 115 = .ok (.invokevirtual 222, 3) := by decide +kernel
theorem dX9_digest_118 : decode cX9_digest 118 = .ok (.i2l, 1) := by decide +kernel
theorem dX9_digest_119 : decode cX9_digest 119 = .ok (.ladd, 1) := by decide +kernel
theorem dX9_digest_120 : decode cX9_digest 120 = .ok (.lreturn, 1) := by decide +kernel
theorem dX9_digestNode_0 : decode cX9_digestNode 0 = .ok (.lload_n 1, 1) := by decide +kernel
theorem dX9_digestNode_1 : decode cX9_digestNode 1 = .ok (.lstore 4, 2) := by decide +kernel
theorem dX9_digestNode_3 : decode cX9_digestNode 3 = .ok (.iconst 0, 1) := by decide +kernel
theorem dX9_digestNode_4 : decode cX9_digestNode 4 = .ok (.istore 6, 2) := by decide +kernel
theorem dX9_digestNode_6 : decode cX9_digestNode 6 = .ok (.iload 6, 2) := by decide +kernel
theorem dX9_digestNode_8 : decode cX9_digestNode 8 = .ok (.bipush 6, 2) := by decide +kernel
theorem dX9_digestNode_10 : decode cX9_digestNode 10 = .ok (.if_icmp .gt 26, 3) := by decide +kernel
theorem dX9_digestNode_13 : decode cX9_digestNode 13 = .ok (.lload 4, 2) := by decide +kernel
theorem dX9_digestNode_15 : decode cX9_digestNode 15 = .ok (.ldc2_w 231, 3) := by decide +kernel
theorem dX9_digestNode_18 : decode cX9_digestNode 18 = .ok (.lmul, 1) := by decide +kernel
theorem dX9_digestNode_19 : decode cX9_digestNode 19 = .ok (.aload_n 0, 1) := by decide +kernel
theorem dX9_digestNode_20 : decode cX9_digestNode 20 = .ok (.iload_n 3, 1) := by decide +kernel
theorem dX9_digestNode_21 : decode cX9_digestNode 21 = .ok (.iload 6, 2) := by decide +kernel
theorem dX9_digestNode_23 : decode cX9_digestNode 23 = .ok (.invokevirtual 243, 3) := by decide +kernel
theorem dX9_digestNode_26 : decode cX9_digestNode 26 = .ok (.i2l, 1) := by decide +kernel
theorem dX9_digestNode_27 : decode cX9_digestNode 27 = .ok (.ladd, 1) := by decide +kernel
theorem dX9_digestNode_28 : decode cX9_digestNode 28 = .ok (.lstore 4, 2) := by decide +kernel
theorem dX9_digestNode_30 : decode cX9_digestNode 30 = .ok (.iinc 6 1, 3) := by decide +kernel
theorem dX9_digestNode_33 : decode cX9_digestNode 33 = .ok (.goto (-27), 3) := by decide +kernel
theorem dX9_digestNode_36 : decode cX9_digestNode 36 = .ok (.lload 4, 2) := by decide +kernel
theorem dX9_digestNode_38 : decode cX9_digestNode 38 = .ok (.ldc2_w 231, 3) := by decide +kernel
theorem dX9_digestNode_41 : decode cX9_digestNode 41 = .ok (.lmul, 1) := by decide +kernel
theorem dX9_digestNode_42 : decode cX9_digestNode 42 = .ok (.ldc2_w 246, 3) := by decide +kernel
theorem dX9_digestNode_45 : decode cX9_digestNode 45 = .ok (.aload_n 0, 1) := by decide +kernel
theorem dX9_digestNode_46 : decode cX9_digestNode 46 = .ok (.iload_n 3, 1) := by decide +kernel
theorem dX9_digestNode_47 : decode cX9_digestNode 47 = .ok (.invokevirtual 248, 3) := by decide +kernel
theorem dX9_digestNode_50 : decode cX9_digestNode 50 = .ok (.dmul, 1) := by decide +kernel
theorem dX9_digestNode_51 : decode cX9_digestNode 51 = .ok (.d2l, 1) := by decide +kernel
theorem dX9_digestNode_52 : decode cX9_digestNode 52 = .ok (.ladd, 1) := by decide +kernel
theorem dX9_digestNode_53 : decode cX9_digestNode 53 = .ok (.lstore 4, 2) := by decide +kernel
theorem dX9_digestNode_55 : decode cX9_digestNode 55 = .ok (.aload_n 0, 1) := by decide +kernel
theorem dX9_digestNode_56 : decode cX9_digestNode 56 = .ok (.getfield 12, 3) := by decide +kernel
theorem dX9_digestNode_59 : decode cX9_digestNode 59 = .ok (.getfield 88, 3) := by decide +kernel
theorem dX9_digestNode_62 : decode cX9_digestNode 62 = .ok (.iload_n 3, 1) := by decide +kernel
theorem dX9_digestNode_63 : decode cX9_digestNode 63 = .ok (.aaload, 1) := by decide +kernel
theorem dX9_digestNode_64 : decode cX9_digestNode 64 = .ok (.invokevirtual 135, 3) := by decide +kernel
theorem dX9_digestNode_67 : decode cX9_digestNode 67 = .ok (.ifCond .eq 61, 3) := by decide +kernel
theorem dX9_digestNode_70 : decode cX9_digestNode 70 = .ok (.lload 4, 2) := by decide +kernel
theorem dX9_digestNode_72 : decode cX9_digestNode 72 = .ok (.ldc2_w 231, 3) := by decide +kernel
theorem dX9_digestNode_75 : decode cX9_digestNode 75 = .ok (.lmul, 1) := by decide +kernel
theorem dX9_digestNode_76 : decode cX9_digestNode 76 = .ok (.ldc2_w 246, 3) := by decide +kernel
theorem dX9_digestNode_79 : decode cX9_digestNode 79 = .ok (.aload_n 0, 1) := by decide +kernel
theorem dX9_digestNode_80 : decode cX9_digestNode 80 = .ok (.iload_n 3, 1) := by decide +kernel
theorem dX9_digestNode_81 : decode cX9_digestNode 81 = .ok (.iconst 0, 1) := by decide +kernel
theorem dX9_digestNode_82 : decode cX9_digestNode 82 = .ok (.iconst 1, 1) := by decide +kernel
theorem dX9_digestNode_83 : decode cX9_digestNode 83 = .ok (.invokevirtual 251, 3) := by decide +kernel
theorem dX9_digestNode_86 : decode cX9_digestNode 86 = .ok (.dmul, 1) := by decide +kernel
theorem dX9_digestNode_87 : decode cX9_digestNode 87 = .ok (.d2l, 1) := by decide +kernel
theorem dX9_digestNode_88 : decode cX9_digestNode 88 = .ok (.ladd, 1) := by decide +kernel
theorem dX9_digestNode_89 : decode cX9_digestNode 89 = .ok (.lstore 4, 2) := by decide +kernel
theorem dX9_digestNode_91 : decode cX9_digestNode 91 = .ok (.lload 4, 2) := by decide +kernel
theorem dX9_digestNode_93 : decode cX9_digestNode 93 = .ok (.ldc2_w 231, 3) := by decide +kernel
theorem dX9_digestNode_96 : decode cX9_digestNode 96 = .ok (.lmul, 1) := by decide +kernel
theorem dX9_digestNode_97 : decode cX9_digestNode 97 = .ok (.ldc2_w 246, 3) := by decide +kernel
theorem dX9_digestNode_100 : decode cX9_digestNode 100 = .ok (.aload_n 0, 1) := by decide +kernel
theorem dX9_digestNode_101 : decode cX9_digestNode 101 = .ok (.iload_n 3, 1) := by decide +kernel
theorem dX9_digestNode_102 : decode cX9_digestNode 102 = .ok (.iconst 0, 1) := by decide +kernel
theorem dX9_digestNode_103 : decode cX9_digestNode 103 = .ok (.iconst 0, 1) := by decide +kernel
theorem dX9_digestNode_104 : decode cX9_digestNode 104 = .ok (.invokevirtual 251, 3) := by decide +kernel
theorem dX9_digestNode_107 : decode cX9_digestNode 107 = .ok (.dmul, 1) := by decide +kernel
theorem dX9_digestNode_108 : decode cX9_digestNode 108 = .ok (.d2l, 1) := by decide +kernel
theorem dX9_digestNode_109 : decode cX9_digestNode 109 = .ok (.ladd, 1) := by decide +kernel
theorem dX9_digestNode_110 : decode cX9_digestNode 110 = .ok (.lstore 4, 2) := by decide +kernel
theorem dX9_digestNode_112 : decode cX9_digestNode 112 = .ok (.lload 4, 2) := by decide +kernel
theorem dX9_digestNode_114 : decode cX9_digestNode 114 = .ok (.ldc2_w 231, 3) := by decide +kernel
theorem dX9_digestNode_117 : decode cX9_digestNode 117 = .ok (.lmul, 1) := by decide +kernel
theorem dX9_digestNode_118 : decode cX9_digestNode 118 = .ok (.aload_n 0, 1) := by decide +kernel
theorem dX9_digestNode_119 : decode cX9_digestNode 119 = .ok (.iload_n 3, 1) := by decide +kernel
theorem dX9_digestNode_120 : decode cX9_digestNode 120 = .ok (.iconst 0, 1) := by decide +kernel
theorem dX9_digestNode_121 : decode cX9_digestNode 121 = .ok (.invokevirtual 255, 3) := by decide +kernel
theorem dX9_digestNode_124 : decode cX9_digestNode 124 = .ok (.i2l, 1) := by decide +kernel
theorem dX9_digestNode_125 : decode cX9_digestNode 125 = .ok (.ladd, 1) := by decide +kernel
theorem dX9_digestNode_126 : decode cX9_digestNode 126 = .ok (.lstore 4, 2) := by decide +kernel
theorem dX9_digestNode_128 : decode cX9_digestNode 128 = .ok (.lload 4, 2) := by decide +kernel
theorem dX9_digestNode_130 : decode cX9_digestNode 130 = .ok (.lreturn, 1) := by decide +kernel
theorem dX9_mustBeOpen_0 : decode cX9_mustBeOpen 0 = .ok (.aload_n 0, 1) := by decide +kernel
theorem dX9_mustBeOpen_1 : decode cX9_mustBeOpen 1 = .ok (.getfield 142, 3) := by decide +kernel
theorem dX9_mustBeOpen_4 : decode cX9_mustBeOpen 4 = .ok (.ifCond .ne 7, 3) := by decide +kernel
theorem dX9_mustBeOpen_7 : decode cX9_mustBeOpen 7 = .ok (.iload_n 1, 1) := by decide +kernel
theorem dX9_mustBeOpen_8 : decode cX9_mustBeOpen 8 = .ok (.ifCond .ne 14, 3) := by decide +kernel
theorem dX9_mustBeOpen_11 : decode cX9_mustBeOpen 11 = .ok (.new 258, 3) := by decide +kernel
theorem dX9_mustBeOpen_14 : decode cX9_mustBeOpen 14 = .ok (.dup, 1) := by decide +kernel
theorem dX9_mustBeOpen_15 : decode cX9_mustBeOpen 15 = .ok (.ldc_w 260, 3) := by decide +kernel
theorem dX9_mustBeOpen_18 : decode cX9_mustBeOpen 18 = .ok (.invokespecial 262, 3) := by decide +kernel
theorem dX9_mustBeOpen_21 : decode cX9_mustBeOpen 21 = .ok (.athrow, 1) := by decide +kernel
theorem dX9_mustBeOpen_22 : decode cX9_mustBeOpen 22 = .ok (.return_, 1) := by decide +kernel
theorem dX9_mustExist_0 : decode cX9_mustExist 0 = .ok (.iload_n 0, 1) := by decide +kernel
theorem dX9_mustExist_1 : decode cX9_mustExist 1 = .ok (.ifCond .ne 14, 3) := by decide +kernel
theorem dX9_mustExist_4 : decode cX9_mustExist 4 = .ok (.new 265, 3) := by decide +kernel
theorem dX9_mustExist_7 : decode cX9_mustExist 7 = .ok (.dup, 1) := by decide +kernel
theorem dX9_mustExist_8 : decode cX9_mustExist 8 = .ok (.ldc_w 267, 3) := by decide +kernel
theorem dX9_mustExist_11 : decode cX9_mustExist 11 = .ok (.invokespecial 269, 3) := by decide +kernel
theorem dX9_mustExist_14 : decode cX9_mustExist 14 = .ok (.athrow, 1) := by decide +kernel
theorem dX9_mustExist_15 : decode cX9_mustExist 15 = .ok (.return_, 1) := by decide +kernel
theorem dX9_mustFit_0 : decode cX9_mustFit 0 = .ok (.iload_n 0, 1) := by decide +kernel
theorem dX9_mustFit_1 : decode cX9_mustFit 1 = .ok (.ifCond .ne 14, 3) := by decide +kernel
theorem dX9_mustFit_4 : decode cX9_mustFit 4 = .ok (.new 270, 3) := by decide +kernel
theorem dX9_mustFit_7 : decode cX9_mustFit 7 = .ok (.dup, 1) := by decide +kernel
theorem dX9_mustFit_8 : decode cX9_mustFit 8 = .ok (.ldc_w 272, 3) := by decide +kernel
theorem dX9_mustFit_11 : decode cX9_mustFit 11 = .ok (.invokespecial 274, 3) := by decide +kernel
theorem dX9_mustFit_14 : decode cX9_mustFit 14 = .ok (.athrow, 1) := by decide +kernel
theorem dX9_mustFit_15 : decode cX9_mustFit 15 = .ok (.return_, 1) := by decide +kernel
theorem dX9_mustBePair_0 : decode cX9_mustBePair 0 = .ok (.aload_n 0, 1) := by decide +kernel
theorem dX9_mustBePair_1 : decode cX9_mustBePair 1 = .ok (.getfield 12, 3) := by decide +kernel
theorem dX9_mustBePair_4 : decode cX9_mustBePair 4 = .ok (.iload_n 1, 1) := by decide +kernel
theorem dX9_mustBePair_5 : decode cX9_mustBePair 5 = .ok (.invokevirtual 85, 3) := by decide +kernel
theorem dX9_mustBePair_8 : decode cX9_mustBePair 8 = .ok (.ifCond .eq 18, 3) := by decide +kernel
theorem dX9_mustBePair_11 : decode cX9_mustBePair 11 = .ok (.aload_n 0, 1) := by decide +kernel
theorem dX9_mustBePair_12 : decode cX9_mustBePair 12 = .ok (.getfield 12, 3) := by decide +kernel
theorem dX9_mustBePair_15 : decode cX9_mustBePair 15 = .ok (.iload_n 2, 1) := by decide +kernel
theorem dX9_mustBePair_16 : decode cX9_mustBePair 16 = .ok (.invokevirtual 85, 3) := by decide +kernel
theorem dX9_mustBePair_19 : decode cX9_mustBePair 19 = .ok (.ifCond .eq 7, 3) := by decide +kernel
theorem dX9_mustBePair_22 : decode cX9_mustBePair 22 = .ok (.iconst 1, 1) := by decide +kernel
theorem dX9_mustBePair_23 : decode cX9_mustBePair 23 = .ok (.goto 4, 3) := by decide +kernel
theorem dX9_mustBePair_26 : decode cX9_mustBePair 26 = .ok (.iconst 0, 1) := by decide +kernel
theorem dX9_mustBePair_27 : decode cX9_mustBePair 27 = .ok (.invokestatic 51, 3) := by decide +kernel
theorem dX9_mustBePair_30 : decode cX9_mustBePair 30 = .ok (.aload_n 0, 1) := by decide +kernel
theorem dX9_mustBePair_31 : decode cX9_mustBePair 31 = .ok (.getfield 12, 3) := by decide +kernel
theorem dX9_mustBePair_34 : decode cX9_mustBePair 34 = .ok (.getfield 88, 3) := by decide +kernel
theorem dX9_mustBePair_37 : decode cX9_mustBePair 37 = .ok (.iload_n 1, 1) := by decide +kernel
theorem dX9_mustBePair_38 : decode cX9_mustBePair 38 = .ok (.aaload, 1) := by decide +kernel
theorem dX9_mustBePair_39 : decode cX9_mustBePair 39 = .ok (.invokevirtual 131, 3) := by decide +kernel
theorem dX9_mustBePair_42 : decode cX9_mustBePair 42 = .ok (.ifCond .eq 22, 3) := by decide +kernel
theorem dX9_mustBePair_45 : decode cX9_mustBePair 45 = .ok (.aload_n 0, 1) := by decide +kernel
theorem dX9_mustBePair_46 : decode cX9_mustBePair 46 = .ok (.getfield 12, 3) := by decide +kernel
theorem dX9_mustBePair_49 : decode cX9_mustBePair 49 = .ok (.getfield 88, 3) := by decide +kernel
theorem dX9_mustBePair_52 : decode cX9_mustBePair 52 = .ok (.iload_n 2, 1) := by decide +kernel
theorem dX9_mustBePair_53 : decode cX9_mustBePair 53 = .ok (.aaload, 1) := by decide +kernel
theorem dX9_mustBePair_54 : decode cX9_mustBePair 54 = .ok (.invokevirtual 135, 3) := by decide +kernel
theorem dX9_mustBePair_57 : decode cX9_mustBePair 57 = .ok (.ifCond .eq 7, 3) := by decide +kernel
theorem dX9_mustBePair_60 : decode cX9_mustBePair 60 = .ok (.iconst 1, 1) := by decide +kernel
theorem dX9_mustBePair_61 : decode cX9_mustBePair 61 = .ok (.goto 4, 3) := by decide +kernel
theorem dX9_mustBePair_64 : decode cX9_mustBePair 64 = .ok (.iconst 0, 1) := by decide +kernel
theorem dX9_mustBePair_65 : decode cX9_mustBePair 65 = .ok (.invokestatic 37, 3) := by decide +kernel
theorem dX9_mustBePair_68 : decode cX9_mustBePair 68 = .ok (.return_, 1) := by decide +kernel
theorem dX9_isIn_0 : decode cX9_isIn 0 = .ok (.iload_n 0, 1) := by decide +kernel
theorem dX9_isIn_1 : decode cX9_isIn 1 = .ok (.iload_n 1, 1) := by decide +kernel
theorem dX9_isIn_2 : decode cX9_isIn 2 = .ok (.if_icmp .lt 12, 3) := by decide +kernel
theorem dX9_isIn_5 : decode cX9_isIn 5 = .ok (.iload_n 0, 1) := by decide +kernel
theorem dX9_isIn_6 : decode cX9_isIn 6 = .ok (.iload_n 2, 1) := by decide +kernel
theorem dX9_isIn_7 : decode cX9_isIn 7 = .ok (.if_icmp .gt 7, 3) := by decide +kernel
theorem dX9_isIn_10 : decode cX9_isIn 10 = .ok (.iconst 1, 1) := by decide +kernel
theorem dX9_isIn_11 : decode cX9_isIn 11 = .ok (.goto 4, 3) := by decide +kernel
theorem dX9_isIn_14 : decode cX9_isIn 14 = .ok (.iconst 0, 1) := by decide +kernel
theorem dX9_isIn_15 : decode cX9_isIn 15 = .ok (.ireturn, 1) := by decide +kernel
theorem dX9_isSize_0 : decode cX9_isSize 0 = .ok (.iload_n 0, 1) := by decide +kernel
theorem dX9_isSize_1 : decode cX9_isSize 1 = .ok (.iconst 1, 1) := by decide +kernel
theorem dX9_isSize_2 : decode cX9_isSize 2 = .ok (.if_icmp .eq 13, 3) := by decide +kernel
theorem dX9_isSize_5 : decode cX9_isSize 5 = .ok (.iload_n 0, 1) := by decide +kernel
theorem dX9_isSize_6 : decode cX9_isSize 6 = .ok (.iconst 2, 1) := by decide +kernel
theorem dX9_isSize_7 : decode cX9_isSize 7 = .ok (.if_icmp .eq 8, 3) := by decide +kernel
theorem dX9_isSize_10 : decode cX9_isSize 10 = .ok (.iload_n 0, 1) := by decide +kernel
theorem dX9_isSize_11 : decode cX9_isSize 11 = .ok (.iconst 4, 1) := by decide +kernel
theorem dX9_isSize_12 : decode cX9_isSize 12 = .ok (.if_icmp .ne 7, 3) := by decide +kernel
theorem dX9_isSize_15 : decode cX9_isSize 15 = .ok (.iconst 1, 1) := by decide +kernel
theorem dX9_isSize_16 : decode cX9_isSize 16 = .ok (.goto 4, 3) := by decide +kernel
theorem dX9_isSize_19 : decode cX9_isSize 19 = .ok (.iconst 0, 1) := by decide +kernel
theorem dX9_isSize_20 : decode cX9_isSize 20 = .ok (.ireturn, 1) := by decide +kernel
theorem dX9_smaller_0 : decode cX9_smaller 0 = .ok (.dload_n 0, 1) := by decide +kernel
theorem dX9_smaller_1 : decode cX9_smaller 1 = .ok (.dload_n 2, 1) := by decide +kernel
theorem dX9_smaller_2 : decode cX9_smaller 2 = .ok (.dcmp .g, 1) := by decide +kernel
theorem dX9_smaller_3 : decode cX9_smaller 3 = .ok (.ifCond .gt 7, 3) := by decide +kernel
theorem dX9_smaller_6 : decode cX9_smaller 6 = .ok (.dload_n 0, 1) := by decide +kernel
theorem dX9_smaller_7 : decode cX9_smaller 7 = .ok (.goto 4, 3) := by decide +kernel
theorem dX9_smaller_10 : decode cX9_smaller 10 = .ok (.dload_n 2, 1) := by decide +kernel
theorem dX9_smaller_11 : decode cX9_smaller 11 = .ok (.dreturn, 1) := by decide +kernel
theorem dX9_greater_0 : decode cX9_greater 0 = .ok (.dload_n 0, 1) := by decide +kernel
theorem dX9_greater_1 : decode cX9_greater 1 = .ok (.dload_n 2, 1) := by decide +kernel
theorem dX9_greater_2 : decode cX9_greater 2 = .ok (.dcmp .l, 1) := by decide +kernel
theorem dX9_greater_3 : decode cX9_greater 3 = .ok (.ifCond .lt 7, 3) := by decide +kernel
theorem dX9_greater_6 : decode cX9_greater 6 = .ok (.dload_n 0, 1) := by decide +kernel
theorem dX9_greater_7 : decode cX9_greater 7 = .ok (.goto 4, 3) := by decide +kernel
theorem dX9_greater_10 : decode cX9_greater 10 = .ok (.dload_n 2, 1) := by decide +kernel
theorem dX9_greater_11 : decode cX9_greater 11 = .ok (.dreturn, 1) := by decide +kernel
theorem dJ6_bitCount_0f7a4_0 : decode cJ6_bitCount_0f7a4 0 = .ok (.iload_n 0, 1) := by decide +kernel
theorem dJ6_bitCount_0f7a4_1 : decode cJ6_bitCount_0f7a4 1 = .ok (.iload_n 0, 1) := by decide +kernel
theorem dJ6_bitCount_0f7a4_2 : decode cJ6_bitCount_0f7a4 2 = .ok (.iconst 1, 1) := by decide +kernel
theorem dJ6_bitCount_0f7a4_3 : decode cJ6_bitCount_0f7a4 3 = .ok (.iushr, 1) := by decide +kernel
theorem dJ6_bitCount_0f7a4_4 : decode cJ6_bitCount_0f7a4 4 = .ok (.ldc_w 265, 3) := by decide +kernel
theorem dJ6_bitCount_0f7a4_7 : decode cJ6_bitCount_0f7a4 7 = .ok (.iand, 1) := by decide +kernel
theorem dJ6_bitCount_0f7a4_8 : decode cJ6_bitCount_0f7a4 8 = .ok (.isub, 1) := by decide +kernel
theorem dJ6_bitCount_0f7a4_9 : decode cJ6_bitCount_0f7a4 9 = .ok (.istore_n 0, 1) := by decide +kernel
theorem dJ6_bitCount_0f7a4_10 : decode cJ6_bitCount_0f7a4 10 = .ok (.iload_n 0, 1) := by decide +kernel
theorem dJ6_bitCount_0f7a4_11 : decode cJ6_bitCount_0f7a4 11 = .ok (.ldc_w 266, 3) := by decide +kernel
theorem dJ6_bitCount_0f7a4_14 : decode cJ6_bitCount_0f7a4 14 = .ok (.iand, 1) := by decide +kernel
theorem dJ6_bitCount_0f7a4_15 : decode cJ6_bitCount_0f7a4 15 = .ok (.iload_n 0, 1) := by decide +kernel
theorem dJ6_bitCount_0f7a4_16 : decode cJ6_bitCount_0f7a4 16 = .ok (.iconst 2, 1) := by decide +kernel
theorem dJ6_bitCount_0f7a4_17 : decode cJ6_bitCount_0f7a4 17 = .ok (.iushr, 1) := by decide +kernel
theorem dJ6_bitCount_0f7a4_18 : decode cJ6_bitCount_0f7a4 18 = .ok (.ldc_w 266, 3) := by decide +kernel
theorem dJ6_bitCount_0f7a4_21 : decode cJ6_bitCount_0f7a4 21 = .ok (.iand, 1) := by decide +kernel
theorem dJ6_bitCount_0f7a4_22 : decode cJ6_bitCount_0f7a4 22 = .ok (.iadd, 1) := by decide +kernel
theorem dJ6_bitCount_0f7a4_23 : decode cJ6_bitCount_0f7a4 23 = .ok (.istore_n 0, 1) := by decide +kernel
theorem dJ6_bitCount_0f7a4_24 : decode cJ6_bitCount_0f7a4 24 = .ok (.iload_n 0, 1) := by decide +kernel
theorem dJ6_bitCount_0f7a4_25 : decode cJ6_bitCount_0f7a4 25 = .ok (.iload_n 0, 1) := by decide +kernel
theorem dJ6_bitCount_0f7a4_26 : decode cJ6_bitCount_0f7a4 26 = .ok (.iconst 4, 1) := by decide +kernel
theorem dJ6_bitCount_0f7a4_27 : decode cJ6_bitCount_0f7a4 27 = .ok (.iushr, 1) := by decide +kernel
theorem dJ6_bitCount_0f7a4_28 : decode cJ6_bitCount_0f7a4 28 = .ok (.iadd, 1) := by decide +kernel
theorem dJ6_bitCount_0f7a4_29 : decode cJ6_bitCount_0f7a4 29 = .ok (.ldc_w 267, 3) := by decide +kernel
theorem dJ6_bitCount_0f7a4_32 : decode cJ6_bitCount_0f7a4 32 = .ok (.iand, 1) := by decide +kernel
theorem dJ6_bitCount_0f7a4_33 : decode cJ6_bitCount_0f7a4 33 = .ok (.istore_n 0, 1) := by decide +kernel
theorem dJ6_bitCount_0f7a4_34 : decode cJ6_bitCount_0f7a4 34 = .ok (.iload_n 0, 1) := by decide +kernel
theorem dJ6_bitCount_0f7a4_35 : decode cJ6_bitCount_0f7a4 35 = .ok (.iload_n 0, 1) := by decide +kernel
theorem dJ6_bitCount_0f7a4_36 : decode cJ6_bitCount_0f7a4 36 = .ok (.bipush 8, 2) := by decide +kernel
theorem dJ6_bitCount_0f7a4_38 : decode cJ6_bitCount_0f7a4 38 = .ok (.iushr, 1) := by decide +kernel
theorem dJ6_bitCount_0f7a4_39 : decode cJ6_bitCount_0f7a4 39 = .ok (.iadd, 1) := by decide +kernel
theorem dJ6_bitCount_0f7a4_40 : decode cJ6_bitCount_0f7a4 40 = .ok (.istore_n 0, 1) := by decide +kernel
theorem dJ6_bitCount_0f7a4_41 : decode cJ6_bitCount_0f7a4 41 = .ok (.iload_n 0, 1) := by decide +kernel
theorem dJ6_bitCount_0f7a4_42 : decode cJ6_bitCount_0f7a4 42 = .ok (.iload_n 0, 1) := by decide +kernel
theorem dJ6_bitCount_0f7a4_43 : decode cJ6_bitCount_0f7a4 43 = .ok (.bipush 16, 2) := by decide +kernel
theorem dJ6_bitCount_0f7a4_45 : decode cJ6_bitCount_0f7a4 45 = .ok (.iushr, 1) := by decide +kernel
theorem dJ6_bitCount_0f7a4_46 : decode cJ6_bitCount_0f7a4 46 = .ok (.iadd, 1) := by decide +kernel
theorem dJ6_bitCount_0f7a4_47 : decode cJ6_bitCount_0f7a4 47 = .ok (.istore_n 0, 1) := by decide +kernel
theorem dJ6_bitCount_0f7a4_48 : decode cJ6_bitCount_0f7a4 48 = .ok (.iload_n 0, 1) := by decide +kernel
theorem dJ6_bitCount_0f7a4_49 : decode cJ6_bitCount_0f7a4 49 = .ok (.bipush 63, 2) := by decide +kernel
theorem dJ6_bitCount_0f7a4_51 : decode cJ6_bitCount_0f7a4 51 = .ok (.iand, 1) := by decide +kernel
theorem dJ6_bitCount_0f7a4_52 : decode cJ6_bitCount_0f7a4 52 = .ok (.ireturn, 1) := by decide +kernel
end
section
/-! the tables of the little machine -/
def j_cl : List vw_C := [(RX0, TX0, 7), (RX1, TX1, 8), (RX2, TX2, 5), (RX3, TX3, 2), (RX4, TX4, 4), (RX5, TX5, 8), (RX6, TX6, 6), (RX7, TX7, 3), (RX8, TX8, 9), (RX9, TX9, 4)]
def j_all : List Cond := lw_tbl.filter goodWord
def j_ty : List FieldType := [.int, .double, .float, .object RX2, .object RX3, .object RX5, .object RX7, .object RX8]
def j_nm : List (String × Nat × MethodName × String) := [(RX1, 39, yX2_init, RX9), (RX1, 40, yX3_init, RX9), (RX1, 44, yX7_init, RX9), (RX4, 71, yX9_isSize, RX9), (RX8, 161, yX9_greater, RX9), (RX8, 135, yX9_smaller, RX9), (RX0, 84, yX9_smaller, RX9)]
def j_ao : List String := [RX2, RX3, RX5, RX7, RX8]
theorem j_in {w : Cond} (i : Nat) (h : tables_1[i]? = some w) (hg : goodWord w = true) : w ∈ j_all := List.mem_filter.mpr ⟨List.mem_append_right _ (List.mem_of_getElem? h), hg⟩
theorem j_insel {q : MethodName × Nat} (i : Nat) (h : lw_privs[i]? = some q) : Cond.selects q.1.cls q.1 q.1 ∈ j_all := List.mem_filter.mpr ⟨List.mem_append_left _ (List.mem_map.mpr ⟨q, List.mem_of_getElem? h, rfl⟩), rfl⟩
theorem j_many (ws : List Cond) (ps : List Nat) (h : ws.map some = ps.map (fun i => tables_1[i]?)) (hg : ws.all goodWord = true) : ∀ w ∈ ws, w ∈ j_all := fun w hw => by
  have h1 : some w ∈ ps.map (fun i => tables_1[i]?) := by rw [← h]; exact List.mem_map.mpr ⟨w, hw, rfl⟩
  obtain ⟨i, -, hi⟩ := List.mem_map.mp h1
  exact j_in i hi (List.all_eq_true.mp hg w hw)
theorem wi_0 : ∀ w ∈ u_ws RX0 TX0 7, w ∈ j_all := j_many _ [320, 322, 324, 326, 328, 330, 332] (by decide +kernel) (by decide +kernel)
theorem wi_1 : ∀ w ∈ u_ws RX1 TX1 8, w ∈ j_all := j_many _ [203, 205, 207, 209, 211, 213, 215, 217] (by decide +kernel) (by decide +kernel)
theorem wi_2 : ∀ w ∈ u_ws RX2 TX2 5, w ∈ j_all := j_many _ [79, 81, 83, 85, 87] (by decide +kernel) (by decide +kernel)
theorem wi_3 : ∀ w ∈ u_ws RX3 TX3 2, w ∈ j_all := j_many _ [101, 103] (by decide +kernel) (by decide +kernel)
theorem wi_4 : ∀ w ∈ u_ws RX4 TX4 4, w ∈ j_all := j_many _ [267, 269, 271, 273] (by decide +kernel) (by decide +kernel)
theorem wi_5 : ∀ w ∈ u_ws RX5 TX5 8, w ∈ j_all := j_many _ [142, 144, 146, 148, 150, 152, 154, 156] (by decide +kernel) (by decide +kernel)
theorem wi_6 : ∀ w ∈ u_ws RX6 TX6 6, w ∈ j_all := j_many _ [241, 243, 245, 247, 249, 251] (by decide +kernel) (by decide +kernel)
theorem wi_7 : ∀ w ∈ u_ws RX7 TX7 3, w ∈ j_all := j_many _ [171, 173, 175] (by decide +kernel) (by decide +kernel)
theorem wi_8 : ∀ w ∈ u_ws RX8 TX8 9, w ∈ j_all := j_many _ [294, 296, 298, 300, 302, 304, 306, 308, 310] (by decide +kernel) (by decide +kernel)
theorem wi_9 : ∀ w ∈ u_ws RX9 TX9 4, w ∈ j_all := j_many _ [339, 341, 343, 345] (by decide +kernel) (by decide +kernel)
theorem wd_0 : Cond.instanceMethod objectInit ∈ j_all := j_in 38 (by decide +kernel) rfl
theorem wd_1 : Cond.code objectInit ⟨#[0xb1]⟩ 1 none ∈ j_all := j_in 39 (by decide +kernel) rfl
theorem wd_2 : Cond.methodLink RX0 3 objectInit ∈ j_all := j_in 225 (by decide +kernel) rfl
theorem wd_3 : Cond.classLink RX0 9 RX8 ∈ j_all := j_in 226 (by decide +kernel) rfl
theorem wd_4 : Cond.fieldLink RX0 11 RX0 (TX0 3).2.1 (TX0 3).2.2.1 ∈ j_all := j_in 316 (by decide +kernel) rfl
theorem wd_5 : Cond.fieldLink RX0 17 RX0 (TX0 4).2.1 (TX0 4).2.2.1 ∈ j_all := j_in 317 (by decide +kernel) rfl
theorem wd_6 : Cond.fieldLink RX0 20 RX0 (TX0 0).2.1 (TX0 0).2.2.1 ∈ j_all := j_in 313 (by decide +kernel) rfl
theorem wd_7 : Cond.classLink RX0 24 RX6 ∈ j_all := j_in 228 (by decide +kernel) rfl
theorem wd_8 : Cond.instantiable RX6 6 ∈ j_all := j_in 229 (by decide +kernel) rfl
theorem wd_9 : Cond.initialized RX6 ∈ j_all := j_in 8 (by decide +kernel) rfl
theorem wd_10 : Cond.code yX6_init cX6_init 2 none ∈ j_all := j_in 232 (by decide +kernel) rfl
theorem wd_11 : Cond.methodLink RX0 26 yX6_init ∈ j_all := j_in 230 (by decide +kernel) rfl
theorem wd_12 : Cond.instanceMethod yX6_init ∈ j_all := j_in 231 (by decide +kernel) rfl
theorem wd_13 : Cond.fieldLink RX0 29 RX0 (TX0 1).2.1 (TX0 1).2.2.1 ∈ j_all := j_in 314 (by decide +kernel) rfl
theorem wd_14 : Cond.classLink RX0 33 RX4 ∈ j_all := j_in 255 (by decide +kernel) rfl
theorem wd_15 : Cond.instantiable RX4 4 ∈ j_all := j_in 256 (by decide +kernel) rfl
theorem wd_16 : Cond.initialized RX4 ∈ j_all := j_in 9 (by decide +kernel) rfl
theorem wd_17 : Cond.code yX4_init cX4_init 2 none ∈ j_all := j_in 259 (by decide +kernel) rfl
theorem wd_18 : Cond.methodLink RX0 35 yX4_init ∈ j_all := j_in 257 (by decide +kernel) rfl
theorem wd_19 : Cond.instanceMethod yX4_init ∈ j_all := j_in 258 (by decide +kernel) rfl
theorem wd_20 : Cond.fieldLink RX0 36 RX0 (TX0 2).2.1 (TX0 2).2.2.1 ∈ j_all := j_in 315 (by decide +kernel) rfl
theorem wd_21 : Cond.fieldLink RX0 40 RX0 (TX0 5).2.1 (TX0 5).2.2.1 ∈ j_all := j_in 318 (by decide +kernel) rfl
theorem wd_22 : Cond.instantiable RX8 9 ∈ j_all := j_in 278 (by decide +kernel) rfl
theorem wd_23 : Cond.initialized RX8 ∈ j_all := j_in 10 (by decide +kernel) rfl
theorem wd_24 : Cond.code yX8_init cX8_init 5 none ∈ j_all := j_in 281 (by decide +kernel) rfl
theorem wd_25 : Cond.methodLink RX0 43 yX8_init ∈ j_all := j_in 279 (by decide +kernel) rfl
theorem wd_26 : Cond.instanceMethod yX8_init ∈ j_all := j_in 280 (by decide +kernel) rfl
theorem wd_27 : Cond.fieldLink RX0 46 RX0 (TX0 6).2.1 (TX0 6).2.2.1 ∈ j_all := j_in 319 (by decide +kernel) rfl
theorem wd_28 : Cond.fieldLink RX0 50 RX6 (TX6 5).2.1 (TX6 5).2.2.1 ∈ j_all := j_in 240 (by decide +kernel) rfl
theorem wd_29 : Cond.fieldLink RX0 54 RX4 (TX4 3).2.1 (TX4 3).2.2.1 ∈ j_all := j_in 266 (by decide +kernel) rfl
theorem wd_30 : Cond.fieldLink RX0 55 RX8 (TX8 8).2.1 (TX8 8).2.2.1 ∈ j_all := j_in 292 (by decide +kernel) rfl
theorem wd_31 : Cond.code yX6_prepare cX6_prepare 4 none ∈ j_all := j_in 372 (by decide +kernel) rfl
theorem wd_32 : Cond.methodLink RX0 56 yX6_prepare ∈ j_all := j_in 369 (by decide +kernel) rfl
theorem wd_33 : Cond.instanceMethod yX6_prepare ∈ j_all := j_in 370 (by decide +kernel) rfl
theorem wd_34 : Cond.selects RX6 yX6_prepare yX6_prepare ∈ j_all := j_in 371 (by decide +kernel) rfl
theorem wd_35 : Cond.code yX4_prepare cX4_prepare 1 none ∈ j_all := j_in 431 (by decide +kernel) rfl
theorem wd_36 : Cond.methodLink RX0 59 yX4_prepare ∈ j_all := j_in 428 (by decide +kernel) rfl
theorem wd_37 : Cond.instanceMethod yX4_prepare ∈ j_all := j_in 429 (by decide +kernel) rfl
theorem wd_38 : Cond.selects RX4 yX4_prepare yX4_prepare ∈ j_all := j_in 430 (by decide +kernel) rfl
theorem wd_39 : Cond.fieldLink RX0 60 RX1 (TX1 1).2.1 (TX1 1).2.2.1 ∈ j_all := j_in 181 (by decide +kernel) rfl
theorem wd_40 : Cond.code yX8_reckon cX8_reckon 4 none ∈ j_all := j_in 464 (by decide +kernel) rfl
theorem wd_41 : Cond.methodLink RX0 66 yX8_reckon ∈ j_all := j_in 461 (by decide +kernel) rfl
theorem wd_42 : Cond.instanceMethod yX8_reckon ∈ j_all := j_in 462 (by decide +kernel) rfl
theorem wd_43 : Cond.selects RX8 yX8_reckon yX8_reckon ∈ j_all := j_in 463 (by decide +kernel) rfl
theorem wd_44 : Cond.constantDouble RX0 70 (4681608292164698112) ∈ j_all := j_in 364 (by decide +kernel) rfl
theorem wd_45 : Cond.fieldLink RX0 72 RX1 (TX1 5).2.1 (TX1 5).2.2.1 ∈ j_all := j_in 194 (by decide +kernel) rfl
theorem wd_46 : Cond.code yX0_timing cX0_timing 4 (some (.object "SlackHall$Timing")) ∈ j_all := j_in 368 (by decide +kernel) rfl
theorem wd_47 : Cond.initialized RX0 ∈ j_all := j_in 7 (by decide +kernel) rfl
theorem wd_48 : Cond.methodLink RX0 76 yX0_timing ∈ j_all := j_in 365 (by decide +kernel) rfl
theorem wd_49 : Cond.instanceMethod yX0_timing ∈ j_all := j_in 366 (by decide +kernel) rfl
theorem wd_50 : Cond.selects RX0 yX0_timing yX0_timing ∈ j_all := j_in 367 (by decide +kernel) rfl
theorem wd_51 : Cond.code yX8_leastOfEnds cX8_leastOfEnds 4 (some .double) ∈ j_all := j_in 545 (by decide +kernel) rfl
theorem wd_52 : Cond.methodLink RX0 80 yX8_leastOfEnds ∈ j_all := j_in 542 (by decide +kernel) rfl
theorem wd_53 : Cond.instanceMethod yX8_leastOfEnds ∈ j_all := j_in 543 (by decide +kernel) rfl
theorem wd_54 : Cond.selects RX8 yX8_leastOfEnds yX8_leastOfEnds ∈ j_all := j_in 544 (by decide +kernel) rfl
theorem wd_55 : Cond.code yX9_smaller cX9_smaller 4 (some .double) ∈ j_all := j_in 499 (by decide +kernel) rfl
theorem wd_56 : Cond.initialized RX9 ∈ j_all := j_in 1 (by decide +kernel) rfl
theorem wd_57 : Cond.static yX9_smaller ∈ j_all := j_in 498 (by decide +kernel) rfl
theorem wd_58 : Cond.fieldLink RX0 88 RX1 (TX1 6).2.1 (TX1 6).2.2.1 ∈ j_all := j_in 200 (by decide +kernel) rfl
theorem wd_59 : Cond.fieldLink RX0 91 RX1 (TX1 2).2.1 (TX1 2).2.2.1 ∈ j_all := j_in 187 (by decide +kernel) rfl
theorem wd_60 : Cond.code yX5_isEndKind cX5_isEndKind 1 (some .boolean) ∈ j_all := j_in 400 (by decide +kernel) rfl
theorem wd_61 : Cond.initialized RX5 ∈ j_all := j_in 5 (by decide +kernel) rfl
theorem wd_62 : Cond.methodLink RX0 95 yX5_isEndKind ∈ j_all := j_in 667 (by decide +kernel) rfl
theorem wd_63 : Cond.instanceMethod yX5_isEndKind ∈ j_all := j_in 398 (by decide +kernel) rfl
theorem wd_64 : Cond.selects RX5 yX5_isEndKind yX5_isEndKind ∈ j_all := j_in 399 (by decide +kernel) rfl
theorem wd_65 : Cond.code yX8_leastAt cX8_leastAt 2 (some .double) ∈ j_all := j_in 671 (by decide +kernel) rfl
theorem wd_66 : Cond.methodLink RX0 101 yX8_leastAt ∈ j_all := j_in 668 (by decide +kernel) rfl
theorem wd_67 : Cond.instanceMethod yX8_leastAt ∈ j_all := j_in 669 (by decide +kernel) rfl
theorem wd_68 : Cond.selects RX8 yX8_leastAt yX8_leastAt ∈ j_all := j_in 670 (by decide +kernel) rfl
theorem wd_69 : Cond.fieldLink RX0 105 RX5 (TX5 5).2.1 (TX5 5).2.2.1 ∈ j_all := j_in 136 (by decide +kernel) rfl
theorem wd_70 : Cond.code yX4_reckon cX4_reckon 4 none ∈ j_all := j_in 435 (by decide +kernel) rfl
theorem wd_71 : Cond.methodLink RX0 108 yX4_reckon ∈ j_all := j_in 564 (by decide +kernel) rfl
theorem wd_72 : Cond.instanceMethod yX4_reckon ∈ j_all := j_in 433 (by decide +kernel) rfl
theorem wd_73 : Cond.selects RX4 yX4_reckon yX4_reckon ∈ j_all := j_in 434 (by decide +kernel) rfl
theorem wd_74 : Cond.code yX0_leastOfAll cX0_leastOfAll 5 (some .double) ∈ j_all := j_in 363 (by decide +kernel) rfl
theorem wd_75 : Cond.methodLink RX0 110 yX0_leastOfAll ∈ j_all := j_in 559 (by decide +kernel) rfl
theorem wd_76 : Cond.instanceMethod yX0_leastOfAll ∈ j_all := j_in 361 (by decide +kernel) rfl
theorem wd_77 : Cond.selects RX0 yX0_leastOfAll yX0_leastOfAll ∈ j_all := j_in 362 (by decide +kernel) rfl
theorem wd_78 : Cond.code yX0_leastWith cX0_leastWith 8 (some .double) ∈ j_all := j_in 563 (by decide +kernel) rfl
theorem wd_79 : Cond.methodLink RX0 114 yX0_leastWith ∈ j_all := j_in 560 (by decide +kernel) rfl
theorem wd_80 : Cond.instanceMethod yX0_leastWith ∈ j_all := j_in 561 (by decide +kernel) rfl
theorem wd_81 : Cond.selects RX0 yX0_leastWith yX0_leastWith ∈ j_all := j_in 562 (by decide +kernel) rfl
theorem wd_82 : Cond.methodLink RX1 3 objectInit ∈ j_all := j_in 45 (by decide +kernel) rfl
theorem wd_83 : Cond.classLink RX1 9 RX2 ∈ j_all := j_in 46 (by decide +kernel) rfl
theorem wd_84 : Cond.fieldLink RX1 11 RX1 (TX1 0).2.1 (TX1 0).2.2.1 ∈ j_all := j_in 178 (by decide +kernel) rfl
theorem wd_85 : Cond.classLink RX1 17 RX3 ∈ j_all := j_in 48 (by decide +kernel) rfl
theorem wd_86 : Cond.fieldLink RX1 19 RX1 (TX1 1).2.1 (TX1 1).2.2.1 ∈ j_all := j_in 180 (by decide +kernel) rfl
theorem wd_87 : Cond.classLink RX1 23 RX5 ∈ j_all := j_in 50 (by decide +kernel) rfl
theorem wd_88 : Cond.fieldLink RX1 25 RX1 (TX1 2).2.1 (TX1 2).2.2.1 ∈ j_all := j_in 182 (by decide +kernel) rfl
theorem wd_89 : Cond.classLink RX1 29 RX7 ∈ j_all := j_in 52 (by decide +kernel) rfl
theorem wd_90 : Cond.fieldLink RX1 31 RX1 (TX1 3).2.1 (TX1 3).2.2.1 ∈ j_all := j_in 188 (by decide +kernel) rfl
theorem wd_91 : Cond.fieldLink RX1 35 RX1 (TX1 5).2.1 (TX1 5).2.2.1 ∈ j_all := j_in 192 (by decide +kernel) rfl
theorem wd_92 : Cond.instantiable RX2 5 ∈ j_all := j_in 54 (by decide +kernel) rfl
theorem wd_93 : Cond.initialized RX2 ∈ j_all := j_in 3 (by decide +kernel) rfl
theorem wd_94 : Cond.code yX2_init cX2_init 1 none ∈ j_all := j_in 57 (by decide +kernel) rfl
theorem wd_95 : Cond.instanceMethod yX2_init ∈ j_all := j_in 56 (by decide +kernel) rfl
theorem wd_96 : Cond.instantiable RX3 2 ∈ j_all := j_in 90 (by decide +kernel) rfl
theorem wd_97 : Cond.initialized RX3 ∈ j_all := j_in 4 (by decide +kernel) rfl
theorem wd_98 : Cond.code yX3_init cX3_init 1 none ∈ j_all := j_in 93 (by decide +kernel) rfl
theorem wd_99 : Cond.instanceMethod yX3_init ∈ j_all := j_in 92 (by decide +kernel) rfl
theorem wd_100 : Cond.instantiable RX5 8 ∈ j_all := j_in 106 (by decide +kernel) rfl
theorem wd_101 : Cond.code yX5_init cX5_init 2 none ∈ j_all := j_in 109 (by decide +kernel) rfl
theorem wd_102 : Cond.methodLink RX1 41 yX5_init ∈ j_all := j_in 107 (by decide +kernel) rfl
theorem wd_103 : Cond.instanceMethod yX5_init ∈ j_all := j_in 108 (by decide +kernel) rfl
theorem wd_104 : Cond.instantiable RX7 3 ∈ j_all := j_in 159 (by decide +kernel) rfl
theorem wd_105 : Cond.initialized RX7 ∈ j_all := j_in 6 (by decide +kernel) rfl
theorem wd_106 : Cond.code yX7_init cX7_init 1 none ∈ j_all := j_in 162 (by decide +kernel) rfl
theorem wd_107 : Cond.instanceMethod yX7_init ∈ j_all := j_in 161 (by decide +kernel) rfl
theorem wd_108 : Cond.fieldLink RX1 45 RX1 (TX1 4).2.1 (TX1 4).2.2.1 ∈ j_all := j_in 191 (by decide +kernel) rfl
theorem wd_109 : Cond.fieldLink RX1 48 RX1 (TX1 6).2.1 (TX1 6).2.2.1 ∈ j_all := j_in 198 (by decide +kernel) rfl
theorem wd_110 : Cond.fieldLink RX1 51 RX2 (TX2 0).2.1 (TX2 0).2.2.1 ∈ j_all := j_in 61 (by decide +kernel) rfl
theorem wd_111 : Cond.fieldLink RX1 54 RX2 (TX2 1).2.1 (TX2 1).2.2.1 ∈ j_all := j_in 66 (by decide +kernel) rfl
theorem wd_112 : Cond.fieldLink RX1 57 RX2 (TX2 2).2.1 (TX2 2).2.2.1 ∈ j_all := j_in 70 (by decide +kernel) rfl
theorem wd_113 : Cond.fieldLink RX1 60 RX2 (TX2 3).2.1 (TX2 3).2.2.1 ∈ j_all := j_in 74 (by decide +kernel) rfl
theorem wd_114 : Cond.fieldLink RX1 63 RX2 (TX2 4).2.1 (TX2 4).2.2.1 ∈ j_all := j_in 77 (by decide +kernel) rfl
theorem wd_115 : Cond.constantDouble RX1 66 (4593671619917905920) ∈ j_all := j_in 821 (by decide +kernel) rfl
theorem wd_116 : Cond.fieldLink RX1 68 RX3 (TX3 0).2.1 (TX3 0).2.2.1 ∈ j_all := j_in 97 (by decide +kernel) rfl
theorem wd_117 : Cond.fieldLink RX1 72 RX3 (TX3 1).2.1 (TX3 1).2.2.1 ∈ j_all := j_in 100 (by decide +kernel) rfl
theorem wd_118 : Cond.fieldLink RX1 75 RX5 (TX5 0).2.1 (TX5 0).2.2.1 ∈ j_all := j_in 115 (by decide +kernel) rfl
theorem wd_119 : Cond.fieldLink RX1 78 RX5 (TX5 1).2.1 (TX5 1).2.2.1 ∈ j_all := j_in 122 (by decide +kernel) rfl
theorem wd_120 : Cond.fieldLink RX1 81 RX5 (TX5 2).2.1 (TX5 2).2.2.1 ∈ j_all := j_in 127 (by decide +kernel) rfl
theorem wd_121 : Cond.fieldLink RX1 84 RX5 (TX5 3).2.1 (TX5 3).2.2.1 ∈ j_all := j_in 129 (by decide +kernel) rfl
theorem wd_122 : Cond.code yX1_hasClock cX1_hasClock 2 (some .boolean) ∈ j_all := j_in 687 (by decide +kernel) rfl
theorem wd_123 : Cond.initialized RX1 ∈ j_all := j_in 2 (by decide +kernel) rfl
theorem wd_124 : Cond.methodLink RX1 87 yX1_hasClock ∈ j_all := j_in 833 (by decide +kernel) rfl
theorem wd_125 : Cond.instanceMethod yX1_hasClock ∈ j_all := j_in 685 (by decide +kernel) rfl
theorem wd_126 : Cond.selects RX1 yX1_hasClock yX1_hasClock ∈ j_all := j_in 686 (by decide +kernel) rfl
theorem wd_127 : Cond.fieldLink RX1 91 RX5 (TX5 4).2.1 (TX5 4).2.2.1 ∈ j_all := j_in 131 (by decide +kernel) rfl
theorem wd_128 : Cond.fieldLink RX1 95 RX1 (TX1 7).2.1 (TX1 7).2.2.1 ∈ j_all := j_in 201 (by decide +kernel) rfl
theorem wd_129 : Cond.fieldLink RX1 98 RX7 (TX7 0).2.1 (TX7 0).2.2.1 ∈ j_all := j_in 166 (by decide +kernel) rfl
theorem wd_130 : Cond.fieldLink RX1 101 RX7 (TX7 1).2.1 (TX7 1).2.2.1 ∈ j_all := j_in 168 (by decide +kernel) rfl
theorem wd_131 : Cond.fieldLink RX1 104 RX7 (TX7 2).2.1 (TX7 2).2.2.1 ∈ j_all := j_in 170 (by decide +kernel) rfl
theorem wd_132 : Cond.code yX7_fits cX7_fits 3 (some .boolean) ∈ j_all := j_in 416 (by decide +kernel) rfl
theorem wd_133 : Cond.methodLink RX1 107 yX7_fits ∈ j_all := j_in 413 (by decide +kernel) rfl
theorem wd_134 : Cond.instanceMethod yX7_fits ∈ j_all := j_in 414 (by decide +kernel) rfl
theorem wd_135 : Cond.selects RX7 yX7_fits yX7_fits ∈ j_all := j_in 415 (by decide +kernel) rfl
theorem wd_136 : Cond.code yX7_weight cX7_weight 1 (some .int) ∈ j_all := j_in 420 (by decide +kernel) rfl
theorem wd_137 : Cond.methodLink RX1 111 yX7_weight ∈ j_all := j_in 417 (by decide +kernel) rfl
theorem wd_138 : Cond.instanceMethod yX7_weight ∈ j_all := j_in 418 (by decide +kernel) rfl
theorem wd_139 : Cond.selects RX7 yX7_weight yX7_weight ∈ j_all := j_in 419 (by decide +kernel) rfl
theorem wd_140 : Cond.code yX1_greatestDivisor cX1_greatestDivisor 6 (some .int) ∈ j_all := j_in 427 (by decide +kernel) rfl
theorem wd_141 : Cond.methodLink RX1 115 yX1_greatestDivisor ∈ j_all := j_in 425 (by decide +kernel) rfl
theorem wd_142 : Cond.static yX1_greatestDivisor ∈ j_all := j_in 426 (by decide +kernel) rfl
theorem wd_143 : Cond.methodLink RX2 1 objectInit ∈ j_all := j_in 58 (by decide +kernel) rfl
theorem wd_144 : Cond.fieldLink RX2 7 RX2 (TX2 0).2.1 (TX2 0).2.2.1 ∈ j_all := j_in 59 (by decide +kernel) rfl
theorem wd_145 : Cond.fieldLink RX2 13 RX2 (TX2 1).2.1 (TX2 1).2.2.1 ∈ j_all := j_in 63 (by decide +kernel) rfl
theorem wd_146 : Cond.fieldLink RX2 16 RX2 (TX2 2).2.1 (TX2 2).2.2.1 ∈ j_all := j_in 68 (by decide +kernel) rfl
theorem wd_147 : Cond.fieldLink RX2 19 RX2 (TX2 3).2.1 (TX2 3).2.2.1 ∈ j_all := j_in 72 (by decide +kernel) rfl
theorem wd_148 : Cond.fieldLink RX2 22 RX2 (TX2 4).2.1 (TX2 4).2.2.1 ∈ j_all := j_in 75 (by decide +kernel) rfl
theorem wd_149 : Cond.methodLink RX3 1 objectInit ∈ j_all := j_in 94 (by decide +kernel) rfl
theorem wd_150 : Cond.fieldLink RX3 7 RX3 (TX3 0).2.1 (TX3 0).2.2.1 ∈ j_all := j_in 95 (by decide +kernel) rfl
theorem wd_151 : Cond.fieldLink RX3 13 RX3 (TX3 1).2.1 (TX3 1).2.2.1 ∈ j_all := j_in 98 (by decide +kernel) rfl
theorem wd_152 : Cond.methodLink RX4 3 objectInit ∈ j_all := j_in 260 (by decide +kernel) rfl
theorem wd_153 : Cond.arrayClass .float ∈ j_all := j_in 276 (by decide +kernel) rfl
theorem wd_154 : Cond.fieldLink RX4 9 RX4 (TX4 1).2.1 (TX4 1).2.2.1 ∈ j_all := j_in 262 (by decide +kernel) rfl
theorem wd_155 : Cond.arrayClass .double ∈ j_all := j_in 277 (by decide +kernel) rfl
theorem wd_156 : Cond.fieldLink RX4 15 RX4 (TX4 2).2.1 (TX4 2).2.2.1 ∈ j_all := j_in 264 (by decide +kernel) rfl
theorem wd_157 : Cond.fieldLink RX4 19 RX4 (TX4 0).2.1 (TX4 0).2.2.1 ∈ j_all := j_in 261 (by decide +kernel) rfl
theorem wd_158 : Cond.fieldLink RX4 23 RX4 (TX4 3).2.1 (TX4 3).2.2.1 ∈ j_all := j_in 265 (by decide +kernel) rfl
theorem wd_159 : Cond.methodLink RX4 27 yX4_reckon ∈ j_all := j_in 432 (by decide +kernel) rfl
theorem wd_160 : Cond.fieldLink RX4 30 RX1 (TX1 6).2.1 (TX1 6).2.2.1 ∈ j_all := j_in 197 (by decide +kernel) rfl
theorem wd_161 : Cond.fieldLink RX4 36 RX1 (TX1 2).2.1 (TX1 2).2.2.1 ∈ j_all := j_in 185 (by decide +kernel) rfl
theorem wd_162 : Cond.fieldLink RX4 40 RX5 (TX5 6).2.1 (TX5 6).2.2.1 ∈ j_all := j_in 138 (by decide +kernel) rfl
theorem wd_163 : Cond.fieldLink RX4 46 RX5 (TX5 0).2.1 (TX5 0).2.2.1 ∈ j_all := j_in 113 (by decide +kernel) rfl
theorem wd_164 : Cond.constantFloat RX4 49 (1056964608) ∈ j_all := j_in 436 (by decide +kernel) rfl
theorem wd_165 : Cond.fieldLink RX4 50 RX5 (TX5 5).2.1 (TX5 5).2.2.1 ∈ j_all := j_in 134 (by decide +kernel) rfl
theorem wd_166 : Cond.fieldLink RX4 53 RX5 (TX5 1).2.1 (TX5 1).2.2.1 ∈ j_all := j_in 119 (by decide +kernel) rfl
theorem wd_167 : Cond.code yX4_burden cX4_burden 3 none ∈ j_all := j_in 440 (by decide +kernel) rfl
theorem wd_168 : Cond.methodLink RX4 56 yX4_burden ∈ j_all := j_in 437 (by decide +kernel) rfl
theorem wd_169 : Cond.instanceMethod yX4_burden ∈ j_all := j_in 439 (by decide +kernel) rfl
theorem wd_170 : Cond.selects RX4 yX4_burden yX4_burden ∈ j_all := j_insel (q := (yX4_burden, (lw_privs[2]?.getD (⟨"", "", ""⟩, 0)).2)) 2 (by decide +kernel)
theorem wd_171 : Cond.fieldLink RX4 60 RX5 (TX5 2).2.1 (TX5 2).2.2.1 ∈ j_all := j_in 125 (by decide +kernel) rfl
theorem wd_172 : Cond.code yX4_riseOf cX4_riseOf 5 (some .double) ∈ j_all := j_in 444 (by decide +kernel) rfl
theorem wd_173 : Cond.methodLink RX4 63 yX4_riseOf ∈ j_all := j_in 442 (by decide +kernel) rfl
theorem wd_174 : Cond.static yX4_riseOf ∈ j_all := j_in 443 (by decide +kernel) rfl
theorem wd_175 : Cond.code yX1_hasNode cX1_hasNode 2 (some .boolean) ∈ j_all := j_in 388 (by decide +kernel) rfl
theorem wd_176 : Cond.methodLink RX4 67 yX1_hasNode ∈ j_all := j_in 441 (by decide +kernel) rfl
theorem wd_177 : Cond.instanceMethod yX1_hasNode ∈ j_all := j_in 386 (by decide +kernel) rfl
theorem wd_178 : Cond.selects RX1 yX1_hasNode yX1_hasNode ∈ j_all := j_in 387 (by decide +kernel) rfl
theorem wd_179 : Cond.code yX9_isSize cX9_isSize 1 (some .boolean) ∈ j_all := j_in 447 (by decide +kernel) rfl
theorem wd_180 : Cond.static yX9_isSize ∈ j_all := j_in 446 (by decide +kernel) rfl
theorem wd_181 : Cond.code yX4_unsized cX4_unsized 2 (some .double) ∈ j_all := j_in 450 (by decide +kernel) rfl
theorem wd_182 : Cond.methodLink RX4 74 yX4_unsized ∈ j_all := j_in 448 (by decide +kernel) rfl
theorem wd_183 : Cond.static yX4_unsized ∈ j_all := j_in 449 (by decide +kernel) rfl
theorem wd_184 : Cond.code yX5_isGate cX5_isGate 1 (some .boolean) ∈ j_all := j_in 380 (by decide +kernel) rfl
theorem wd_185 : Cond.methodLink RX4 78 yX5_isGate ∈ j_all := j_in 460 (by decide +kernel) rfl
theorem wd_186 : Cond.instanceMethod yX5_isGate ∈ j_all := j_in 378 (by decide +kernel) rfl
theorem wd_187 : Cond.selects RX5 yX5_isGate yX5_isGate ∈ j_all := j_in 379 (by decide +kernel) rfl
theorem wd_188 : Cond.constantDouble RX4 82 (4611686018427387904) ∈ j_all := j_in 454 (by decide +kernel) rfl
theorem wd_189 : Cond.constantDouble RX4 84 (4616189618054758400) ∈ j_all := j_in 451 (by decide +kernel) rfl
theorem wd_190 : Cond.constantDouble RX4 86 (4598175219545276416) ∈ j_all := j_in 452 (by decide +kernel) rfl
theorem wd_191 : Cond.constantDouble RX4 88 (4620693217682128896) ∈ j_all := j_in 453 (by decide +kernel) rfl
theorem wd_192 : Cond.constantDouble RX4 90 (4600427019358961664) ∈ j_all := j_in 455 (by decide +kernel) rfl
theorem wd_193 : Cond.constantDouble RX4 92 (4625196817309499392) ∈ j_all := j_in 456 (by decide +kernel) rfl
theorem wd_194 : Cond.constantDouble RX4 94 (4615063718147915776) ∈ j_all := j_in 457 (by decide +kernel) rfl
theorem wd_195 : Cond.constantDouble RX4 96 (4619004367821864960) ∈ j_all := j_in 458 (by decide +kernel) rfl
theorem wd_196 : Cond.constantDouble RX4 98 (4602678819172646912) ∈ j_all := j_in 459 (by decide +kernel) rfl
theorem wd_197 : Cond.constantDouble RX4 100 (4604930618986332160) ∈ j_all := j_in 523 (by decide +kernel) rfl
theorem wd_198 : Cond.methodLink RX5 3 objectInit ∈ j_all := j_in 110 (by decide +kernel) rfl
theorem wd_199 : Cond.fieldLink RX5 9 RX5 (TX5 1).2.1 (TX5 1).2.2.1 ∈ j_all := j_in 117 (by decide +kernel) rfl
theorem wd_200 : Cond.fieldLink RX5 15 RX5 (TX5 2).2.1 (TX5 2).2.2.1 ∈ j_all := j_in 123 (by decide +kernel) rfl
theorem wd_201 : Cond.fieldLink RX5 18 RX5 (TX5 3).2.1 (TX5 3).2.2.1 ∈ j_all := j_in 128 (by decide +kernel) rfl
theorem wd_202 : Cond.fieldLink RX5 21 RX5 (TX5 5).2.1 (TX5 5).2.2.1 ∈ j_all := j_in 133 (by decide +kernel) rfl
theorem wd_203 : Cond.fieldLink RX5 24 RX5 (TX5 6).2.1 (TX5 6).2.2.1 ∈ j_all := j_in 137 (by decide +kernel) rfl
theorem wd_204 : Cond.fieldLink RX5 28 RX5 (TX5 4).2.1 (TX5 4).2.2.1 ∈ j_all := j_in 130 (by decide +kernel) rfl
theorem wd_205 : Cond.fieldLink RX5 32 RX5 (TX5 0).2.1 (TX5 0).2.2.1 ∈ j_all := j_in 111 (by decide +kernel) rfl
theorem wd_206 : Cond.fieldLink RX5 35 RX2 (TX2 1).2.1 (TX2 1).2.2.1 ∈ j_all := j_in 65 (by decide +kernel) rfl
theorem wd_207 : Cond.fieldLink RX5 40 RX5 (TX5 7).2.1 (TX5 7).2.2.1 ∈ j_all := j_in 140 (by decide +kernel) rfl
theorem wd_208 : Cond.constantDouble RX5 43 (4598175219545276416) ∈ j_all := j_in 486 (by decide +kernel) rfl
theorem wd_209 : Cond.methodLink RX6 3 objectInit ∈ j_all := j_in 233 (by decide +kernel) rfl
theorem wd_210 : Cond.arrayClass .int ∈ j_all := j_in 254 (by decide +kernel) rfl
theorem wd_211 : Cond.fieldLink RX6 9 RX6 (TX6 1).2.1 (TX6 1).2.2.1 ∈ j_all := j_in 235 (by decide +kernel) rfl
theorem wd_212 : Cond.fieldLink RX6 15 RX6 (TX6 2).2.1 (TX6 2).2.2.1 ∈ j_all := j_in 236 (by decide +kernel) rfl
theorem wd_213 : Cond.fieldLink RX6 18 RX6 (TX6 3).2.1 (TX6 3).2.2.1 ∈ j_all := j_in 237 (by decide +kernel) rfl
theorem wd_214 : Cond.fieldLink RX6 21 RX6 (TX6 4).2.1 (TX6 4).2.2.1 ∈ j_all := j_in 238 (by decide +kernel) rfl
theorem wd_215 : Cond.fieldLink RX6 24 RX6 (TX6 0).2.1 (TX6 0).2.2.1 ∈ j_all := j_in 234 (by decide +kernel) rfl
theorem wd_216 : Cond.fieldLink RX6 28 RX6 (TX6 5).2.1 (TX6 5).2.2.1 ∈ j_all := j_in 239 (by decide +kernel) rfl
theorem wd_217 : Cond.fieldLink RX6 32 RX1 (TX1 6).2.1 (TX1 6).2.2.1 ∈ j_all := j_in 196 (by decide +kernel) rfl
theorem wd_218 : Cond.fieldLink RX6 38 RX1 (TX1 2).2.1 (TX1 2).2.2.1 ∈ j_all := j_in 184 (by decide +kernel) rfl
theorem wd_219 : Cond.code yX5_isStart cX5_isStart 1 (some .boolean) ∈ j_all := j_in 376 (by decide +kernel) rfl
theorem wd_220 : Cond.methodLink RX6 42 yX5_isStart ∈ j_all := j_in 373 (by decide +kernel) rfl
theorem wd_221 : Cond.instanceMethod yX5_isStart ∈ j_all := j_in 374 (by decide +kernel) rfl
theorem wd_222 : Cond.selects RX5 yX5_isStart yX5_isStart ∈ j_all := j_in 375 (by decide +kernel) rfl
theorem wd_223 : Cond.methodLink RX6 48 yX5_isGate ∈ j_all := j_in 377 (by decide +kernel) rfl
theorem wd_224 : Cond.fieldLink RX6 51 RX5 (TX5 1).2.1 (TX5 1).2.2.1 ∈ j_all := j_in 118 (by decide +kernel) rfl
theorem wd_225 : Cond.code yX6_join cX6_join 4 none ∈ j_all := j_in 384 (by decide +kernel) rfl
theorem wd_226 : Cond.methodLink RX6 54 yX6_join ∈ j_all := j_in 381 (by decide +kernel) rfl
theorem wd_227 : Cond.instanceMethod yX6_join ∈ j_all := j_in 383 (by decide +kernel) rfl
theorem wd_228 : Cond.selects RX6 yX6_join yX6_join ∈ j_all := j_insel (q := (yX6_join, (lw_privs[0]?.getD (⟨"", "", ""⟩, 0)).2)) 0 (by decide +kernel)
theorem wd_229 : Cond.fieldLink RX6 58 RX5 (TX5 2).2.1 (TX5 2).2.2.1 ∈ j_all := j_in 124 (by decide +kernel) rfl
theorem wd_230 : Cond.code yX6_check cX6_check 5 none ∈ j_all := j_in 392 (by decide +kernel) rfl
theorem wd_231 : Cond.methodLink RX6 61 yX6_check ∈ j_all := j_in 389 (by decide +kernel) rfl
theorem wd_232 : Cond.instanceMethod yX6_check ∈ j_all := j_in 391 (by decide +kernel) rfl
theorem wd_233 : Cond.selects RX6 yX6_check yX6_check ∈ j_all := j_insel (q := (yX6_check, (lw_privs[1]?.getD (⟨"", "", ""⟩, 0)).2)) 1 (by decide +kernel)
theorem wd_234 : Cond.methodLink RX6 65 yX1_hasNode ∈ j_all := j_in 385 (by decide +kernel) rfl
theorem wd_235 : Cond.code yX6_comesTo cX6_comesTo 4 (some .boolean) ∈ j_all := j_in 396 (by decide +kernel) rfl
theorem wd_236 : Cond.methodLink RX6 69 yX6_comesTo ∈ j_all := j_in 393 (by decide +kernel) rfl
theorem wd_237 : Cond.instanceMethod yX6_comesTo ∈ j_all := j_in 394 (by decide +kernel) rfl
theorem wd_238 : Cond.selects RX6 yX6_comesTo yX6_comesTo ∈ j_all := j_in 395 (by decide +kernel) rfl
theorem wd_239 : Cond.code yX1_isOneGroup cX1_isOneGroup 3 (some .boolean) ∈ j_all := j_in 408 (by decide +kernel) rfl
theorem wd_240 : Cond.methodLink RX6 73 yX1_isOneGroup ∈ j_all := j_in 405 (by decide +kernel) rfl
theorem wd_241 : Cond.instanceMethod yX1_isOneGroup ∈ j_all := j_in 406 (by decide +kernel) rfl
theorem wd_242 : Cond.selects RX1 yX1_isOneGroup yX1_isOneGroup ∈ j_all := j_in 407 (by decide +kernel) rfl
theorem wd_243 : Cond.code yX1_winnerOf cX1_winnerOf 6 (some .int) ∈ j_all := j_in 412 (by decide +kernel) rfl
theorem wd_244 : Cond.methodLink RX6 76 yX1_winnerOf ∈ j_all := j_in 409 (by decide +kernel) rfl
theorem wd_245 : Cond.instanceMethod yX1_winnerOf ∈ j_all := j_in 410 (by decide +kernel) rfl
theorem wd_246 : Cond.selects RX1 yX1_winnerOf yX1_winnerOf ∈ j_all := j_in 411 (by decide +kernel) rfl
theorem wd_247 : Cond.fieldLink RX6 80 RX1 (TX1 3).2.1 (TX1 3).2.2.1 ∈ j_all := j_in 189 (by decide +kernel) rfl
theorem wd_248 : Cond.fieldLink RX6 84 RX7 (TX7 0).2.1 (TX7 0).2.2.1 ∈ j_all := j_in 165 (by decide +kernel) rfl
theorem wd_249 : Cond.code yX1_gapOf cX1_gapOf 5 (some .int) ∈ j_all := j_in 424 (by decide +kernel) rfl
theorem wd_250 : Cond.methodLink RX6 89 yX1_gapOf ∈ j_all := j_in 421 (by decide +kernel) rfl
theorem wd_251 : Cond.instanceMethod yX1_gapOf ∈ j_all := j_in 422 (by decide +kernel) rfl
theorem wd_252 : Cond.selects RX1 yX1_gapOf yX1_gapOf ∈ j_all := j_in 423 (by decide +kernel) rfl
theorem wd_253 : Cond.methodLink RX6 93 yX5_isEndKind ∈ j_all := j_in 397 (by decide +kernel) rfl
theorem wd_254 : Cond.code yX6_reaches cX6_reaches 3 (some .boolean) ∈ j_all := j_in 404 (by decide +kernel) rfl
theorem wd_255 : Cond.methodLink RX6 96 yX6_reaches ∈ j_all := j_in 401 (by decide +kernel) rfl
theorem wd_256 : Cond.instanceMethod yX6_reaches ∈ j_all := j_in 402 (by decide +kernel) rfl
theorem wd_257 : Cond.selects RX6 yX6_reaches yX6_reaches ∈ j_all := j_in 403 (by decide +kernel) rfl
theorem wd_258 : Cond.code yJ6_bitCount_0f7a4 cJ6_bitCount_0f7a4 1 (some .int) ∈ j_all := j_in 659 (by decide +kernel) rfl
theorem wd_259 : Cond.initialized RJ6 ∈ j_all := j_in 31 (by decide +kernel) rfl
theorem wd_260 : Cond.methodLink RX6 99 yJ6_bitCount_0f7a4 ∈ j_all := j_in 657 (by decide +kernel) rfl
theorem wd_261 : Cond.static yJ6_bitCount_0f7a4 ∈ j_all := j_in 658 (by decide +kernel) rfl
theorem wd_262 : Cond.code yX6_isSafe cX6_isSafe 3 (some .boolean) ∈ j_all := j_in 679 (by decide +kernel) rfl
theorem wd_263 : Cond.methodLink RX6 105 yX6_isSafe ∈ j_all := j_in 676 (by decide +kernel) rfl
theorem wd_264 : Cond.instanceMethod yX6_isSafe ∈ j_all := j_in 678 (by decide +kernel) rfl
theorem wd_265 : Cond.selects RX6 yX6_isSafe yX6_isSafe ∈ j_all := j_insel (q := (yX6_isSafe, (lw_privs[13]?.getD (⟨"", "", ""⟩, 0)).2)) 13 (by decide +kernel)
theorem wd_266 : Cond.fieldLink RX6 108 RX5 (TX5 0).2.1 (TX5 0).2.2.1 ∈ j_all := j_in 116 (by decide +kernel) rfl
theorem wd_267 : Cond.methodLink RX7 3 objectInit ∈ j_all := j_in 163 (by decide +kernel) rfl
theorem wd_268 : Cond.fieldLink RX7 9 RX7 (TX7 1).2.1 (TX7 1).2.2.1 ∈ j_all := j_in 167 (by decide +kernel) rfl
theorem wd_269 : Cond.fieldLink RX7 15 RX7 (TX7 2).2.1 (TX7 2).2.2.1 ∈ j_all := j_in 169 (by decide +kernel) rfl
theorem wd_270 : Cond.fieldLink RX7 18 RX7 (TX7 0).2.1 (TX7 0).2.2.1 ∈ j_all := j_in 164 (by decide +kernel) rfl
theorem wd_271 : Cond.methodLink RX8 3 objectInit ∈ j_all := j_in 282 (by decide +kernel) rfl
theorem wd_272 : Cond.fieldLink RX8 9 RX8 (TX8 4).2.1 (TX8 4).2.2.1 ∈ j_all := j_in 287 (by decide +kernel) rfl
theorem wd_273 : Cond.fieldLink RX8 15 RX8 (TX8 5).2.1 (TX8 5).2.2.1 ∈ j_all := j_in 288 (by decide +kernel) rfl
theorem wd_274 : Cond.fieldLink RX8 18 RX8 (TX8 6).2.1 (TX8 6).2.2.1 ∈ j_all := j_in 289 (by decide +kernel) rfl
theorem wd_275 : Cond.fieldLink RX8 21 RX8 (TX8 7).2.1 (TX8 7).2.2.1 ∈ j_all := j_in 290 (by decide +kernel) rfl
theorem wd_276 : Cond.fieldLink RX8 24 RX8 (TX8 0).2.1 (TX8 0).2.2.1 ∈ j_all := j_in 283 (by decide +kernel) rfl
theorem wd_277 : Cond.fieldLink RX8 28 RX8 (TX8 1).2.1 (TX8 1).2.2.1 ∈ j_all := j_in 284 (by decide +kernel) rfl
theorem wd_278 : Cond.fieldLink RX8 32 RX8 (TX8 2).2.1 (TX8 2).2.2.1 ∈ j_all := j_in 285 (by decide +kernel) rfl
theorem wd_279 : Cond.fieldLink RX8 36 RX8 (TX8 3).2.1 (TX8 3).2.2.1 ∈ j_all := j_in 286 (by decide +kernel) rfl
theorem wd_280 : Cond.fieldLink RX8 40 RX1 (TX1 6).2.1 (TX1 6).2.2.1 ∈ j_all := j_in 195 (by decide +kernel) rfl
theorem wd_281 : Cond.fieldLink RX8 46 RX1 (TX1 2).2.1 (TX1 2).2.2.1 ∈ j_all := j_in 183 (by decide +kernel) rfl
theorem wd_282 : Cond.fieldLink RX8 50 RX5 (TX5 0).2.1 (TX5 0).2.2.1 ∈ j_all := j_in 112 (by decide +kernel) rfl
theorem wd_283 : Cond.code yX8_settle cX8_settle 4 none ∈ j_all := j_in 468 (by decide +kernel) rfl
theorem wd_284 : Cond.methodLink RX8 55 yX8_settle ∈ j_all := j_in 465 (by decide +kernel) rfl
theorem wd_285 : Cond.instanceMethod yX8_settle ∈ j_all := j_in 467 (by decide +kernel) rfl
theorem wd_286 : Cond.selects RX8 yX8_settle yX8_settle ∈ j_all := j_insel (q := (yX8_settle, (lw_privs[3]?.getD (⟨"", "", ""⟩, 0)).2)) 3 (by decide +kernel)
theorem wd_287 : Cond.methodLink RX8 59 yX5_isStart ∈ j_all := j_in 510 (by decide +kernel) rfl
theorem wd_288 : Cond.code yX8_depart cX8_depart 4 none ∈ j_all := j_in 514 (by decide +kernel) rfl
theorem wd_289 : Cond.methodLink RX8 63 yX8_depart ∈ j_all := j_in 511 (by decide +kernel) rfl
theorem wd_290 : Cond.instanceMethod yX8_depart ∈ j_all := j_in 513 (by decide +kernel) rfl
theorem wd_291 : Cond.selects RX8 yX8_depart yX8_depart ∈ j_all := j_insel (q := (yX8_depart, (lw_privs[7]?.getD (⟨"", "", ""⟩, 0)).2)) 7 (by decide +kernel)
theorem wd_292 : Cond.methodLink RX8 66 yX5_isGate ∈ j_all := j_in 524 (by decide +kernel) rfl
theorem wd_293 : Cond.code yX8_pass cX8_pass 9 none ∈ j_all := j_in 528 (by decide +kernel) rfl
theorem wd_294 : Cond.methodLink RX8 69 yX8_pass ∈ j_all := j_in 525 (by decide +kernel) rfl
theorem wd_295 : Cond.instanceMethod yX8_pass ∈ j_all := j_in 527 (by decide +kernel) rfl
theorem wd_296 : Cond.selects RX8 yX8_pass yX8_pass ∈ j_all := j_insel (q := (yX8_pass, (lw_privs[9]?.getD (⟨"", "", ""⟩, 0)).2)) 9 (by decide +kernel)
theorem wd_297 : Cond.fieldLink RX8 72 RX8 (TX8 8).2.1 (TX8 8).2.2.1 ∈ j_all := j_in 293 (by decide +kernel) rfl
theorem wd_298 : Cond.fieldLink RX8 75 RX3 (TX3 0).2.1 (TX3 0).2.2.1 ∈ j_all := j_in 96 (by decide +kernel) rfl
theorem wd_299 : Cond.fieldLink RX8 81 RX3 (TX3 1).2.1 (TX3 1).2.2.1 ∈ j_all := j_in 99 (by decide +kernel) rfl
theorem wd_300 : Cond.code yX4_ofEdge cX4_ofEdge 3 (some .double) ∈ j_all := j_in 522 (by decide +kernel) rfl
theorem wd_301 : Cond.methodLink RX8 84 yX4_ofEdge ∈ j_all := j_in 519 (by decide +kernel) rfl
theorem wd_302 : Cond.instanceMethod yX4_ofEdge ∈ j_all := j_in 520 (by decide +kernel) rfl
theorem wd_303 : Cond.selects RX4 yX4_ofEdge yX4_ofEdge ∈ j_all := j_in 521 (by decide +kernel) rfl
theorem wd_304 : Cond.code yX8_delayOf cX8_delayOf 4 (some .double) ∈ j_all := j_in 518 (by decide +kernel) rfl
theorem wd_305 : Cond.methodLink RX8 90 yX8_delayOf ∈ j_all := j_in 515 (by decide +kernel) rfl
theorem wd_306 : Cond.instanceMethod yX8_delayOf ∈ j_all := j_in 517 (by decide +kernel) rfl
theorem wd_307 : Cond.selects RX8 yX8_delayOf yX8_delayOf ∈ j_all := j_insel (q := (yX8_delayOf, (lw_privs[8]?.getD (⟨"", "", ""⟩, 0)).2)) 8 (by decide +kernel)
theorem wd_308 : Cond.methodLink RX8 94 yX6_reaches ∈ j_all := j_in 529 (by decide +kernel) rfl
theorem wd_309 : Cond.code yX8_sourceOf cX8_sourceOf 10 (some .int) ∈ j_all := j_in 533 (by decide +kernel) rfl
theorem wd_310 : Cond.methodLink RX8 100 yX8_sourceOf ∈ j_all := j_in 530 (by decide +kernel) rfl
theorem wd_311 : Cond.instanceMethod yX8_sourceOf ∈ j_all := j_in 532 (by decide +kernel) rfl
theorem wd_312 : Cond.selects RX8 yX8_sourceOf yX8_sourceOf ∈ j_all := j_insel (q := (yX8_sourceOf, (lw_privs[10]?.getD (⟨"", "", ""⟩, 0)).2)) 10 (by decide +kernel)
theorem wd_313 : Cond.fieldLink RX8 104 RX5 (TX5 1).2.1 (TX5 1).2.2.1 ∈ j_all := j_in 120 (by decide +kernel) rfl
theorem wd_314 : Cond.fieldLink RX8 107 RX5 (TX5 2).2.1 (TX5 2).2.2.1 ∈ j_all := j_in 126 (by decide +kernel) rfl
theorem wd_315 : Cond.code yX5_makes cX5_makes 4 (some .boolean) ∈ j_all := j_in 537 (by decide +kernel) rfl
theorem wd_316 : Cond.methodLink RX8 110 yX5_makes ∈ j_all := j_in 534 (by decide +kernel) rfl
theorem wd_317 : Cond.instanceMethod yX5_makes ∈ j_all := j_in 535 (by decide +kernel) rfl
theorem wd_318 : Cond.selects RX5 yX5_makes yX5_makes ∈ j_all := j_in 536 (by decide +kernel) rfl
theorem wd_319 : Cond.code yX8_beats cX8_beats 8 (some .boolean) ∈ j_all := j_in 541 (by decide +kernel) rfl
theorem wd_320 : Cond.methodLink RX8 113 yX8_beats ∈ j_all := j_in 538 (by decide +kernel) rfl
theorem wd_321 : Cond.instanceMethod yX8_beats ∈ j_all := j_in 540 (by decide +kernel) rfl
theorem wd_322 : Cond.selects RX8 yX8_beats yX8_beats ∈ j_all := j_insel (q := (yX8_beats, (lw_privs[11]?.getD (⟨"", "", ""⟩, 0)).2)) 11 (by decide +kernel)
theorem wd_323 : Cond.code yX6_isChecked cX6_isChecked 3 (some .boolean) ∈ j_all := j_in 472 (by decide +kernel) rfl
theorem wd_324 : Cond.methodLink RX8 117 yX6_isChecked ∈ j_all := j_in 469 (by decide +kernel) rfl
theorem wd_325 : Cond.instanceMethod yX6_isChecked ∈ j_all := j_in 470 (by decide +kernel) rfl
theorem wd_326 : Cond.selects RX6 yX6_isChecked yX6_isChecked ∈ j_all := j_in 471 (by decide +kernel) rfl
theorem wd_327 : Cond.code yX8_leftForLate cX8_leftForLate 9 (some .double) ∈ j_all := j_in 476 (by decide +kernel) rfl
theorem wd_328 : Cond.methodLink RX8 120 yX8_leftForLate ∈ j_all := j_in 473 (by decide +kernel) rfl
theorem wd_329 : Cond.instanceMethod yX8_leftForLate ∈ j_all := j_in 475 (by decide +kernel) rfl
theorem wd_330 : Cond.selects RX8 yX8_leftForLate yX8_leftForLate ∈ j_all := j_insel (q := (yX8_leftForLate, (lw_privs[4]?.getD (⟨"", "", ""⟩, 0)).2)) 4 (by decide +kernel)
theorem wd_331 : Cond.code yX8_leftForEarly cX8_leftForEarly 9 (some .double) ∈ j_all := j_in 496 (by decide +kernel) rfl
theorem wd_332 : Cond.methodLink RX8 123 yX8_leftForEarly ∈ j_all := j_in 493 (by decide +kernel) rfl
theorem wd_333 : Cond.instanceMethod yX8_leftForEarly ∈ j_all := j_in 495 (by decide +kernel) rfl
theorem wd_334 : Cond.selects RX8 yX8_leftForEarly yX8_leftForEarly ∈ j_all := j_insel (q := (yX8_leftForEarly, (lw_privs[5]?.getD (⟨"", "", ""⟩, 0)).2)) 5 (by decide +kernel)
theorem wd_335 : Cond.code yX8_lend cX8_lend 6 none ∈ j_all := j_in 504 (by decide +kernel) rfl
theorem wd_336 : Cond.methodLink RX8 126 yX8_lend ∈ j_all := j_in 501 (by decide +kernel) rfl
theorem wd_337 : Cond.instanceMethod yX8_lend ∈ j_all := j_in 503 (by decide +kernel) rfl
theorem wd_338 : Cond.selects RX8 yX8_lend yX8_lend ∈ j_all := j_insel (q := (yX8_lend, (lw_privs[6]?.getD (⟨"", "", ""⟩, 0)).2)) 6 (by decide +kernel)
theorem wd_339 : Cond.constantDouble RX8 130 (4681608292164698112) ∈ j_all := j_in 505 (by decide +kernel) rfl
theorem wd_340 : Cond.code yX8_leftOf cX8_leftOf 3 (some .double) ∈ j_all := j_in 509 (by decide +kernel) rfl
theorem wd_341 : Cond.methodLink RX8 132 yX8_leftOf ∈ j_all := j_in 506 (by decide +kernel) rfl
theorem wd_342 : Cond.instanceMethod yX8_leftOf ∈ j_all := j_in 507 (by decide +kernel) rfl
theorem wd_343 : Cond.selects RX8 yX8_leftOf yX8_leftOf ∈ j_all := j_in 508 (by decide +kernel) rfl
theorem wd_344 : Cond.code yX6_gapBetween cX6_gapBetween 3 (some .int) ∈ j_all := j_in 480 (by decide +kernel) rfl
theorem wd_345 : Cond.methodLink RX8 139 yX6_gapBetween ∈ j_all := j_in 477 (by decide +kernel) rfl
theorem wd_346 : Cond.instanceMethod yX6_gapBetween ∈ j_all := j_in 478 (by decide +kernel) rfl
theorem wd_347 : Cond.selects RX6 yX6_gapBetween yX6_gapBetween ∈ j_all := j_in 479 (by decide +kernel) rfl
theorem wd_348 : Cond.fieldLink RX8 142 RX5 (TX5 4).2.1 (TX5 4).2.2.1 ∈ j_all := j_in 132 (by decide +kernel) rfl
theorem wd_349 : Cond.fieldLink RX8 146 RX2 (TX2 2).2.1 (TX2 2).2.2.1 ∈ j_all := j_in 71 (by decide +kernel) rfl
theorem wd_350 : Cond.constantDouble RX8 151 (4598175219545276416) ∈ j_all := j_in 481 (by decide +kernel) rfl
theorem wd_351 : Cond.code yX5_lag cX5_lag 1 (some .double) ∈ j_all := j_in 485 (by decide +kernel) rfl
theorem wd_352 : Cond.methodLink RX8 153 yX5_lag ∈ j_all := j_in 482 (by decide +kernel) rfl
theorem wd_353 : Cond.instanceMethod yX5_lag ∈ j_all := j_in 483 (by decide +kernel) rfl
theorem wd_354 : Cond.selects RX5 yX5_lag yX5_lag ∈ j_all := j_in 484 (by decide +kernel) rfl
theorem wd_355 : Cond.code yX8_credit cX8_credit 4 (some .double) ∈ j_all := j_in 489 (by decide +kernel) rfl
theorem wd_356 : Cond.methodLink RX8 157 yX8_credit ∈ j_all := j_in 487 (by decide +kernel) rfl
theorem wd_357 : Cond.static yX8_credit ∈ j_all := j_in 488 (by decide +kernel) rfl
theorem wd_358 : Cond.code yX9_greater cX9_greater 4 (some .double) ∈ j_all := j_in 492 (by decide +kernel) rfl
theorem wd_359 : Cond.static yX9_greater ∈ j_all := j_in 491 (by decide +kernel) rfl
theorem wd_360 : Cond.constantDouble RX8 164 (4602678819172646912) ∈ j_all := j_in 500 (by decide +kernel) rfl
theorem wd_361 : Cond.fieldLink RX8 166 RX2 (TX2 4).2.1 (TX2 4).2.2.1 ∈ j_all := j_in 78 (by decide +kernel) rfl
theorem wd_362 : Cond.fieldLink RX8 169 RX2 (TX2 1).2.1 (TX2 1).2.2.1 ∈ j_all := j_in 67 (by decide +kernel) rfl
theorem wd_363 : Cond.fieldLink RX8 172 RX2 (TX2 0).2.1 (TX2 0).2.2.1 ∈ j_all := j_in 62 (by decide +kernel) rfl
theorem wd_364 : Cond.constantDouble RX8 175 (13830554455654793216) ∈ j_all := j_in 764 (by decide +kernel) rfl
theorem wd_365 : Cond.code yX6_hasCheck cX6_hasCheck 2 (some .boolean) ∈ j_all := j_in 549 (by decide +kernel) rfl
theorem wd_366 : Cond.methodLink RX8 177 yX6_hasCheck ∈ j_all := j_in 546 (by decide +kernel) rfl
theorem wd_367 : Cond.instanceMethod yX6_hasCheck ∈ j_all := j_in 547 (by decide +kernel) rfl
theorem wd_368 : Cond.selects RX6 yX6_hasCheck yX6_hasCheck ∈ j_all := j_in 548 (by decide +kernel) rfl
theorem wd_369 : Cond.code yX8_worstStart cX8_worstStart 4 (some .int) ∈ j_all := j_in 759 (by decide +kernel) rfl
theorem wd_370 : Cond.methodLink RX8 181 yX8_worstStart ∈ j_all := j_in 756 (by decide +kernel) rfl
theorem wd_371 : Cond.instanceMethod yX8_worstStart ∈ j_all := j_in 758 (by decide +kernel) rfl
theorem wd_372 : Cond.selects RX8 yX8_worstStart yX8_worstStart ∈ j_all := j_insel (q := (yX8_worstStart, (lw_privs[15]?.getD (⟨"", "", ""⟩, 0)).2)) 15 (by decide +kernel)
theorem wd_373 : Cond.code yX8_arrivalOf cX8_arrivalOf 4 (some .double) ∈ j_all := j_in 763 (by decide +kernel) rfl
theorem wd_374 : Cond.methodLink RX8 185 yX8_arrivalOf ∈ j_all := j_in 760 (by decide +kernel) rfl
theorem wd_375 : Cond.instanceMethod yX8_arrivalOf ∈ j_all := j_in 761 (by decide +kernel) rfl
theorem wd_376 : Cond.selects RX8 yX8_arrivalOf yX8_arrivalOf ∈ j_all := j_in 762 (by decide +kernel) rfl
theorem wd_377 : Cond.methodLink RX9 3 objectInit ∈ j_all := j_in 37 (by decide +kernel) rfl
theorem wd_378 : Cond.classLink RX9 9 RX1 ∈ j_all := j_in 40 (by decide +kernel) rfl
theorem wd_379 : Cond.instantiable RX1 8 ∈ j_all := j_in 41 (by decide +kernel) rfl
theorem wd_380 : Cond.code yX1_init cX1_init 2 none ∈ j_all := j_in 44 (by decide +kernel) rfl
theorem wd_381 : Cond.methodLink RX9 11 yX1_init ∈ j_all := j_in 42 (by decide +kernel) rfl
theorem wd_382 : Cond.instanceMethod yX1_init ∈ j_all := j_in 43 (by decide +kernel) rfl
theorem wd_383 : Cond.fieldLink RX9 12 RX9 (TX9 0).2.1 (TX9 0).2.2.1 ∈ j_all := j_in 335 (by decide +kernel) rfl
theorem wd_384 : Cond.classLink RX9 16 RX0 ∈ j_all := j_in 220 (by decide +kernel) rfl
theorem wd_385 : Cond.instantiable RX0 7 ∈ j_all := j_in 221 (by decide +kernel) rfl
theorem wd_386 : Cond.code yX0_init cX0_init 3 none ∈ j_all := j_in 224 (by decide +kernel) rfl
theorem wd_387 : Cond.methodLink RX9 18 yX0_init ∈ j_all := j_in 222 (by decide +kernel) rfl
theorem wd_388 : Cond.instanceMethod yX0_init ∈ j_all := j_in 223 (by decide +kernel) rfl
theorem wd_389 : Cond.fieldLink RX9 21 RX9 (TX9 1).2.1 (TX9 1).2.2.1 ∈ j_all := j_in 336 (by decide +kernel) rfl
theorem wd_390 : Cond.fieldLink RX9 25 RX1 (TX1 4).2.1 (TX1 4).2.2.1 ∈ j_all := j_in 190 (by decide +kernel) rfl
theorem wd_391 : Cond.code yX9_mustBeOpen cX9_mustBeOpen 2 none ∈ j_all := j_in 777 (by decide +kernel) rfl
theorem wd_392 : Cond.methodLink RX9 29 yX9_mustBeOpen ∈ j_all := j_in 774 (by decide +kernel) rfl
theorem wd_393 : Cond.instanceMethod yX9_mustBeOpen ∈ j_all := j_in 776 (by decide +kernel) rfl
theorem wd_394 : Cond.selects RX9 yX9_mustBeOpen yX9_mustBeOpen ∈ j_all := j_insel (q := (yX9_mustBeOpen, (lw_privs[16]?.getD (⟨"", "", ""⟩, 0)).2)) 16 (by decide +kernel)
theorem wd_395 : Cond.code yX9_isIn cX9_isIn 3 (some .boolean) ∈ j_all := j_in 577 (by decide +kernel) rfl
theorem wd_396 : Cond.methodLink RX9 33 yX9_isIn ∈ j_all := j_in 575 (by decide +kernel) rfl
theorem wd_397 : Cond.static yX9_isIn ∈ j_all := j_in 576 (by decide +kernel) rfl
theorem wd_398 : Cond.code yX9_mustFit cX9_mustFit 1 none ∈ j_all := j_in 580 (by decide +kernel) rfl
theorem wd_399 : Cond.methodLink RX9 37 yX9_mustFit ∈ j_all := j_in 578 (by decide +kernel) rfl
theorem wd_400 : Cond.static yX9_mustFit ∈ j_all := j_in 579 (by decide +kernel) rfl
theorem wd_401 : Cond.code yX0_forget cX0_forget 2 none ∈ j_all := j_in 797 (by decide +kernel) rfl
theorem wd_402 : Cond.methodLink RX9 40 yX0_forget ∈ j_all := j_in 794 (by decide +kernel) rfl
theorem wd_403 : Cond.instanceMethod yX0_forget ∈ j_all := j_in 795 (by decide +kernel) rfl
theorem wd_404 : Cond.selects RX0 yX0_forget yX0_forget ∈ j_all := j_in 796 (by decide +kernel) rfl
theorem wd_405 : Cond.code yX1_addClock cX1_addClock 7 (some .int) ∈ j_all := j_in 801 (by decide +kernel) rfl
theorem wd_406 : Cond.methodLink RX9 43 yX1_addClock ∈ j_all := j_in 798 (by decide +kernel) rfl
theorem wd_407 : Cond.instanceMethod yX1_addClock ∈ j_all := j_in 799 (by decide +kernel) rfl
theorem wd_408 : Cond.selects RX1 yX1_addClock yX1_addClock ∈ j_all := j_in 800 (by decide +kernel) rfl
theorem wd_409 : Cond.methodLink RX9 47 yX1_hasClock ∈ j_all := j_in 684 (by decide +kernel) rfl
theorem wd_410 : Cond.code yX9_mustExist cX9_mustExist 1 none ∈ j_all := j_in 690 (by decide +kernel) rfl
theorem wd_411 : Cond.methodLink RX9 51 yX9_mustExist ∈ j_all := j_in 688 (by decide +kernel) rfl
theorem wd_412 : Cond.static yX9_mustExist ∈ j_all := j_in 689 (by decide +kernel) rfl
theorem wd_413 : Cond.fieldLink RX9 54 RX1 (TX1 0).2.1 (TX1 0).2.2.1 ∈ j_all := j_in 179 (by decide +kernel) rfl
theorem wd_414 : Cond.fieldLink RX9 58 RX2 (TX2 0).2.1 (TX2 0).2.2.1 ∈ j_all := j_in 60 (by decide +kernel) rfl
theorem wd_415 : Cond.fieldLink RX9 63 RX2 (TX2 1).2.1 (TX2 1).2.2.1 ∈ j_all := j_in 64 (by decide +kernel) rfl
theorem wd_416 : Cond.fieldLink RX9 66 RX2 (TX2 2).2.1 (TX2 2).2.2.1 ∈ j_all := j_in 69 (by decide +kernel) rfl
theorem wd_417 : Cond.fieldLink RX9 69 RX2 (TX2 3).2.1 (TX2 3).2.2.1 ∈ j_all := j_in 73 (by decide +kernel) rfl
theorem wd_418 : Cond.fieldLink RX9 72 RX2 (TX2 4).2.1 (TX2 4).2.2.1 ∈ j_all := j_in 76 (by decide +kernel) rfl
theorem wd_419 : Cond.fieldLink RX9 75 RX1 (TX1 5).2.1 (TX1 5).2.2.1 ∈ j_all := j_in 193 (by decide +kernel) rfl
theorem wd_420 : Cond.code yX1_addCorner cX1_addCorner 3 (some .int) ∈ j_all := j_in 820 (by decide +kernel) rfl
theorem wd_421 : Cond.methodLink RX9 78 yX1_addCorner ∈ j_all := j_in 817 (by decide +kernel) rfl
theorem wd_422 : Cond.instanceMethod yX1_addCorner ∈ j_all := j_in 818 (by decide +kernel) rfl
theorem wd_423 : Cond.selects RX1 yX1_addCorner yX1_addCorner ∈ j_all := j_in 819 (by decide +kernel) rfl
theorem wd_424 : Cond.fieldLink RX9 82 RX1 (TX1 6).2.1 (TX1 6).2.2.1 ∈ j_all := j_in 199 (by decide +kernel) rfl
theorem wd_425 : Cond.methodLink RX9 85 yX1_hasNode ∈ j_all := j_in 719 (by decide +kernel) rfl
theorem wd_426 : Cond.fieldLink RX9 88 RX1 (TX1 2).2.1 (TX1 2).2.2.1 ∈ j_all := j_in 186 (by decide +kernel) rfl
theorem wd_427 : Cond.fieldLink RX9 92 RX5 (TX5 0).2.1 (TX5 0).2.2.1 ∈ j_all := j_in 114 (by decide +kernel) rfl
theorem wd_428 : Cond.code yX1_addNode cX1_addNode 6 (some .int) ∈ j_all := j_in 832 (by decide +kernel) rfl
theorem wd_429 : Cond.methodLink RX9 97 yX1_addNode ∈ j_all := j_in 829 (by decide +kernel) rfl
theorem wd_430 : Cond.instanceMethod yX1_addNode ∈ j_all := j_in 830 (by decide +kernel) rfl
theorem wd_431 : Cond.selects RX1 yX1_addNode yX1_addNode ∈ j_all := j_in 831 (by decide +kernel) rfl
theorem wd_432 : Cond.fieldLink RX9 101 RX5 (TX5 1).2.1 (TX5 1).2.2.1 ∈ j_all := j_in 121 (by decide +kernel) rfl
theorem wd_433 : Cond.methodLink RX9 104 yX9_isSize ∈ j_all := j_in 848 (by decide +kernel) rfl
theorem wd_434 : Cond.fieldLink RX9 107 RX5 (TX5 5).2.1 (TX5 5).2.2.1 ∈ j_all := j_in 135 (by decide +kernel) rfl
theorem wd_435 : Cond.constantFloat RX9 110 (1048576000) ∈ j_all := j_in 856 (by decide +kernel) rfl
theorem wd_436 : Cond.fieldLink RX9 111 RX5 (TX5 6).2.1 (TX5 6).2.2.1 ∈ j_all := j_in 139 (by decide +kernel) rfl
theorem wd_437 : Cond.code yX0_delays cX0_delays 1 (some (.object "SlackHall$Delays")) ∈ j_all := j_in 736 (by decide +kernel) rfl
theorem wd_438 : Cond.methodLink RX9 115 yX0_delays ∈ j_all := j_in 733 (by decide +kernel) rfl
theorem wd_439 : Cond.instanceMethod yX0_delays ∈ j_all := j_in 734 (by decide +kernel) rfl
theorem wd_440 : Cond.selects RX0 yX0_delays yX0_delays ∈ j_all := j_in 735 (by decide +kernel) rfl
theorem wd_441 : Cond.fieldLink RX9 119 RX4 (TX4 1).2.1 (TX4 1).2.2.1 ∈ j_all := j_in 263 (by decide +kernel) rfl
theorem wd_442 : Cond.fieldLink RX9 125 RX5 (TX5 7).2.1 (TX5 7).2.2.1 ∈ j_all := j_in 141 (by decide +kernel) rfl
theorem wd_443 : Cond.fieldLink RX9 128 RX1 (TX1 7).2.1 (TX1 7).2.2.1 ∈ j_all := j_in 202 (by decide +kernel) rfl
theorem wd_444 : Cond.methodLink RX9 131 yX5_isStart ∈ j_all := j_in 871 (by decide +kernel) rfl
theorem wd_445 : Cond.methodLink RX9 135 yX5_isEndKind ∈ j_all := j_in 737 (by decide +kernel) rfl
theorem wd_446 : Cond.code yX1_addRule cX1_addRule 5 (some .int) ∈ j_all := j_in 875 (by decide +kernel) rfl
theorem wd_447 : Cond.methodLink RX9 138 yX1_addRule ∈ j_all := j_in 872 (by decide +kernel) rfl
theorem wd_448 : Cond.instanceMethod yX1_addRule ∈ j_all := j_in 873 (by decide +kernel) rfl
theorem wd_449 : Cond.selects RX1 yX1_addRule yX1_addRule ∈ j_all := j_in 874 (by decide +kernel) rfl
theorem wd_450 : Cond.fieldLink RX9 142 RX9 (TX9 2).2.1 (TX9 2).2.2.1 ∈ j_all := j_in 337 (by decide +kernel) rfl
theorem wd_451 : Cond.fieldLink RX9 146 RX9 (TX9 3).2.1 (TX9 3).2.2.1 ∈ j_all := j_in 338 (by decide +kernel) rfl
theorem wd_452 : Cond.code yX2_tell cX2_tell 2 (some .int) ∈ j_all := j_in 710 (by decide +kernel) rfl
theorem wd_453 : Cond.methodLink RX9 149 yX2_tell ∈ j_all := j_in 707 (by decide +kernel) rfl
theorem wd_454 : Cond.instanceMethod yX2_tell ∈ j_all := j_in 708 (by decide +kernel) rfl
theorem wd_455 : Cond.selects RX2 yX2_tell yX2_tell ∈ j_all := j_in 709 (by decide +kernel) rfl
theorem wd_456 : Cond.code yX1_timesFeed cX1_timesFeed 4 (some .int) ∈ j_all := j_in 723 (by decide +kernel) rfl
theorem wd_457 : Cond.methodLink RX9 153 yX1_timesFeed ∈ j_all := j_in 720 (by decide +kernel) rfl
theorem wd_458 : Cond.instanceMethod yX1_timesFeed ∈ j_all := j_in 721 (by decide +kernel) rfl
theorem wd_459 : Cond.selects RX1 yX1_timesFeed yX1_timesFeed ∈ j_all := j_in 722 (by decide +kernel) rfl
theorem wd_460 : Cond.code yX5_tell cX5_tell 2 (some .int) ∈ j_all := j_in 727 (by decide +kernel) rfl
theorem wd_461 : Cond.methodLink RX9 156 yX5_tell ∈ j_all := j_in 724 (by decide +kernel) rfl
theorem wd_462 : Cond.instanceMethod yX5_tell ∈ j_all := j_in 725 (by decide +kernel) rfl
theorem wd_463 : Cond.selects RX5 yX5_tell yX5_tell ∈ j_all := j_in 726 (by decide +kernel) rfl
theorem wd_464 : Cond.methodLink RX9 157 yX4_ofEdge ∈ j_all := j_in 895 (by decide +kernel) rfl
theorem wd_465 : Cond.code yX1_hasCorner cX1_hasCorner 2 (some .boolean) ∈ j_all := j_in 745 (by decide +kernel) rfl
theorem wd_466 : Cond.methodLink RX9 161 yX1_hasCorner ∈ j_all := j_in 742 (by decide +kernel) rfl
theorem wd_467 : Cond.instanceMethod yX1_hasCorner ∈ j_all := j_in 743 (by decide +kernel) rfl
theorem wd_468 : Cond.selects RX1 yX1_hasCorner yX1_hasCorner ∈ j_all := j_in 744 (by decide +kernel) rfl
theorem wd_469 : Cond.methodLink RX9 164 yX0_timing ∈ j_all := j_in 746 (by decide +kernel) rfl
theorem wd_470 : Cond.methodLink RX9 168 yX8_arrivalOf ∈ j_all := j_in 903 (by decide +kernel) rfl
theorem wd_471 : Cond.code yX9_mustBePair cX9_mustBePair 3 none ∈ j_all := j_in 914 (by decide +kernel) rfl
theorem wd_472 : Cond.methodLink RX9 174 yX9_mustBePair ∈ j_all := j_in 911 (by decide +kernel) rfl
theorem wd_473 : Cond.instanceMethod yX9_mustBePair ∈ j_all := j_in 913 (by decide +kernel) rfl
theorem wd_474 : Cond.selects RX9 yX9_mustBePair yX9_mustBePair ∈ j_all := j_insel (q := (yX9_mustBePair, (lw_privs[17]?.getD (⟨"", "", ""⟩, 0)).2)) 17 (by decide +kernel)
theorem wd_475 : Cond.methodLink RX9 178 yX1_winnerOf ∈ j_all := j_in 915 (by decide +kernel) rfl
theorem wd_476 : Cond.methodLink RX9 181 yX8_leftOf ∈ j_all := j_in 923 (by decide +kernel) rfl
theorem wd_477 : Cond.methodLink RX9 184 yX8_leastAt ∈ j_all := j_in 747 (by decide +kernel) rfl
theorem wd_478 : Cond.fieldLink RX9 188 RX8 (TX8 7).2.1 (TX8 7).2.2.1 ∈ j_all := j_in 291 (by decide +kernel) rfl
theorem wd_479 : Cond.code yX0_paths cX0_paths 1 (some (.object "SlackHall$Paths")) ∈ j_all := j_in 652 (by decide +kernel) rfl
theorem wd_480 : Cond.methodLink RX9 192 yX0_paths ∈ j_all := j_in 649 (by decide +kernel) rfl
theorem wd_481 : Cond.instanceMethod yX0_paths ∈ j_all := j_in 650 (by decide +kernel) rfl
theorem wd_482 : Cond.selects RX0 yX0_paths yX0_paths ∈ j_all := j_in 651 (by decide +kernel) rfl
theorem wd_483 : Cond.code yX6_waysTo cX6_waysTo 3 (some .int) ∈ j_all := j_in 945 (by decide +kernel) rfl
theorem wd_484 : Cond.methodLink RX9 196 yX6_waysTo ∈ j_all := j_in 942 (by decide +kernel) rfl
theorem wd_485 : Cond.instanceMethod yX6_waysTo ∈ j_all := j_in 943 (by decide +kernel) rfl
theorem wd_486 : Cond.selects RX6 yX6_waysTo yX6_waysTo ∈ j_all := j_in 944 (by decide +kernel) rfl
theorem wd_487 : Cond.code yX8_worstWay cX8_worstWay 8 (some .int) ∈ j_all := j_in 755 (by decide +kernel) rfl
theorem wd_488 : Cond.methodLink RX9 201 yX8_worstWay ∈ j_all := j_in 752 (by decide +kernel) rfl
theorem wd_489 : Cond.instanceMethod yX8_worstWay ∈ j_all := j_in 753 (by decide +kernel) rfl
theorem wd_490 : Cond.selects RX8 yX8_worstWay yX8_worstWay ∈ j_all := j_in 754 (by decide +kernel) rfl
theorem wd_491 : Cond.code yX6_checkedPairs cX6_checkedPairs 3 (some .int) ∈ j_all := j_in 656 (by decide +kernel) rfl
theorem wd_492 : Cond.methodLink RX9 204 yX6_checkedPairs ∈ j_all := j_in 653 (by decide +kernel) rfl
theorem wd_493 : Cond.instanceMethod yX6_checkedPairs ∈ j_all := j_in 654 (by decide +kernel) rfl
theorem wd_494 : Cond.selects RX6 yX6_checkedPairs yX6_checkedPairs ∈ j_all := j_in 655 (by decide +kernel) rfl
theorem wd_495 : Cond.code yX0_endsInNeed cX0_endsInNeed 6 (some .int) ∈ j_all := j_in 666 (by decide +kernel) rfl
theorem wd_496 : Cond.methodLink RX9 208 yX0_endsInNeed ∈ j_all := j_in 663 (by decide +kernel) rfl
theorem wd_497 : Cond.instanceMethod yX0_endsInNeed ∈ j_all := j_in 664 (by decide +kernel) rfl
theorem wd_498 : Cond.selects RX0 yX0_endsInNeed yX0_endsInNeed ∈ j_all := j_in 665 (by decide +kernel) rfl
theorem wd_499 : Cond.code yX6_crossings cX6_crossings 5 (some .int) ∈ j_all := j_in 675 (by decide +kernel) rfl
theorem wd_500 : Cond.methodLink RX9 212 yX6_crossings ∈ j_all := j_in 672 (by decide +kernel) rfl
theorem wd_501 : Cond.instanceMethod yX6_crossings ∈ j_all := j_in 673 (by decide +kernel) rfl
theorem wd_502 : Cond.selects RX6 yX6_crossings yX6_crossings ∈ j_all := j_in 674 (by decide +kernel) rfl
theorem wd_503 : Cond.methodLink RX9 215 yX0_leastOfAll ∈ j_all := j_in 360 (by decide +kernel) rfl
theorem wd_504 : Cond.methodLink RX9 219 yX0_leastWith ∈ j_all := j_in 961 (by decide +kernel) rfl
theorem wd_505 : Cond.code yX0_bestChange cX0_bestChange 8 (some .int) ∈ j_all := j_in 558 (by decide +kernel) rfl
theorem wd_506 : Cond.methodLink RX9 222 yX0_bestChange ∈ j_all := j_in 555 (by decide +kernel) rfl
theorem wd_507 : Cond.instanceMethod yX0_bestChange ∈ j_all := j_in 556 (by decide +kernel) rfl
theorem wd_508 : Cond.selects RX0 yX0_bestChange yX0_bestChange ∈ j_all := j_in 557 (by decide +kernel) rfl
theorem wd_509 : Cond.code yX0_makesIdle cX0_makesIdle 9 (some .boolean) ∈ j_all := j_in 972 (by decide +kernel) rfl
theorem wd_510 : Cond.methodLink RX9 225 yX0_makesIdle ∈ j_all := j_in 969 (by decide +kernel) rfl
theorem wd_511 : Cond.instanceMethod yX0_makesIdle ∈ j_all := j_in 970 (by decide +kernel) rfl
theorem wd_512 : Cond.selects RX0 yX0_makesIdle yX0_makesIdle ∈ j_all := j_in 971 (by decide +kernel) rfl
theorem wd_513 : Cond.constantLong RX9 229 (9604) ∈ j_all := j_in 569 (by decide +kernel) rfl
theorem wd_514 : Cond.constantLong RX9 231 (31) ∈ j_all := j_in 570 (by decide +kernel) rfl
theorem wd_515 : Cond.code yX9_many cX9_many 2 (some .int) ∈ j_all := j_in 574 (by decide +kernel) rfl
theorem wd_516 : Cond.methodLink RX9 233 yX9_many ∈ j_all := j_in 571 (by decide +kernel) rfl
theorem wd_517 : Cond.instanceMethod yX9_many ∈ j_all := j_in 572 (by decide +kernel) rfl
theorem wd_518 : Cond.selects RX9 yX9_many yX9_many ∈ j_all := j_in 573 (by decide +kernel) rfl
theorem wd_519 : Cond.code yX9_ofClock cX9_ofClock 3 (some .int) ∈ j_all := j_in 683 (by decide +kernel) rfl
theorem wd_520 : Cond.methodLink RX9 236 yX9_ofClock ∈ j_all := j_in 680 (by decide +kernel) rfl
theorem wd_521 : Cond.instanceMethod yX9_ofClock ∈ j_all := j_in 681 (by decide +kernel) rfl
theorem wd_522 : Cond.selects RX9 yX9_ofClock yX9_ofClock ∈ j_all := j_in 682 (by decide +kernel) rfl
theorem wd_523 : Cond.code yX9_digestNode cX9_digestNode 7 (some .long) ∈ j_all := j_in 714 (by decide +kernel) rfl
theorem wd_524 : Cond.methodLink RX9 239 yX9_digestNode ∈ j_all := j_in 711 (by decide +kernel) rfl
theorem wd_525 : Cond.instanceMethod yX9_digestNode ∈ j_all := j_in 713 (by decide +kernel) rfl
theorem wd_526 : Cond.selects RX9 yX9_digestNode yX9_digestNode ∈ j_all := j_insel (q := (yX9_digestNode, (lw_privs[14]?.getD (⟨"", "", ""⟩, 0)).2)) 14 (by decide +kernel)
theorem wd_527 : Cond.code yX9_ofNode cX9_ofNode 3 (some .int) ∈ j_all := j_in 718 (by decide +kernel) rfl
theorem wd_528 : Cond.methodLink RX9 243 yX9_ofNode ∈ j_all := j_in 715 (by decide +kernel) rfl
theorem wd_529 : Cond.instanceMethod yX9_ofNode ∈ j_all := j_in 716 (by decide +kernel) rfl
theorem wd_530 : Cond.selects RX9 yX9_ofNode yX9_ofNode ∈ j_all := j_in 717 (by decide +kernel) rfl
theorem wd_531 : Cond.constantDouble RX9 246 (4634204016564240384) ∈ j_all := j_in 728 (by decide +kernel) rfl
theorem wd_532 : Cond.code yX9_load cX9_load 2 (some .double) ∈ j_all := j_in 732 (by decide +kernel) rfl
theorem wd_533 : Cond.methodLink RX9 248 yX9_load ∈ j_all := j_in 729 (by decide +kernel) rfl
theorem wd_534 : Cond.instanceMethod yX9_load ∈ j_all := j_in 730 (by decide +kernel) rfl
theorem wd_535 : Cond.selects RX9 yX9_load yX9_load ∈ j_all := j_in 731 (by decide +kernel) rfl
theorem wd_536 : Cond.code yX9_leftAt cX9_leftAt 4 (some .double) ∈ j_all := j_in 741 (by decide +kernel) rfl
theorem wd_537 : Cond.methodLink RX9 251 yX9_leftAt ∈ j_all := j_in 738 (by decide +kernel) rfl
theorem wd_538 : Cond.instanceMethod yX9_leftAt ∈ j_all := j_in 739 (by decide +kernel) rfl
theorem wd_539 : Cond.selects RX9 yX9_leftAt yX9_leftAt ∈ j_all := j_in 740 (by decide +kernel) rfl
theorem wd_540 : Cond.code yX9_worst cX9_worst 3 (some .int) ∈ j_all := j_in 751 (by decide +kernel) rfl
theorem wd_541 : Cond.methodLink RX9 255 yX9_worst ∈ j_all := j_in 748 (by decide +kernel) rfl
theorem wd_542 : Cond.instanceMethod yX9_worst ∈ j_all := j_in 749 (by decide +kernel) rfl
theorem wd_543 : Cond.selects RX9 yX9_worst yX9_worst ∈ j_all := j_in 750 (by decide +kernel) rfl
theorem wd_544 : Cond.constant RJ6 265 (1431655765) ∈ j_all := j_in 660 (by decide +kernel) rfl
theorem wd_545 : Cond.constant RJ6 266 (858993459) ∈ j_all := j_in 661 (by decide +kernel) rfl
theorem wd_546 : Cond.constant RJ6 267 (252645135) ∈ j_all := j_in 662 (by decide +kernel) rfl
end
section
/-! THE LITTLE MACHINE: a run of a method over a list of numbered cells; its rules stand on the kit's rows, and are used without them -/
abbrev j_C : Type := (Nat × vp_A) ⊕ (Nat × List Value)
abbrev j_H : Type := List j_C × Nat
abbrev j_M : Type := MethodName × ByteArray × Nat × Option FieldType
abbrev j_L : Type := List (Nat × Value)
def j_v (ad : Nat → Nat) : Value → Value := fun v => match v with
  | .ref a => .ref (ad a)
  | v => v
def j_f (ad : Nat → Nat) (f : Nat → Option Nat) : Nat → Option Nat := fun j => (f j).map ad
def j_c (ad : Nat → Nat) (tc : Nat → ClassId) : j_C → va_E := fun x => match x with
  | .inl (t, n, .inl f) => .inl (tc t, n, .inl f)
  | .inl (t, n, .inr (.inl f)) => .inl (tc t, n, .inr (.inl f))
  | .inl (t, n, .inr (.inr (.inl f))) => .inl (tc t, n, .inr (.inr (.inl f)))
  | .inl (t, n, .inr (.inr (.inr (.inl f)))) => .inl (tc t, n, .inr (.inr (.inr (.inl f))))
  | .inl (t, n, .inr (.inr (.inr (.inr f)))) => .inl (tc t, n, .inr (.inr (.inr (.inr (j_f ad f)))))
  | .inr (c, fs) => .inr (c, fs.map (j_v ad))
def j_w (ad : Nat → Nat) (tc : Nat → ClassId) (G : List j_C) : va_W := G.mapIdx (fun k c => (ad (k + 1), j_c ad tc c))
def j_tys (tc : Nat → ClassId) : List (ClassId × FieldType) := j_ty.mapIdx (fun t ty => (tc t, ty))
def j_A (ad : Nat → Nat) : Nat → Prop := fun q => ∃ k, q = ad (k + 1)
def j_KW (U : State) : Prop := (∀ w ∈ j_nm, va_Nw (.methodLinkNest w.1 w.2.1 w.2.2.1 w.2.2.2) U) ∧ ∀ C ∈ j_ao, va_AO C U
def j_P (D : va_G) (ad : Nat → Nat) (tc : Nat → ClassId) (H : Heap) (h : j_H) : Prop := va_P D j_cl (j_w ad tc h.1) H ∧ ∀ k, ad (h.1.length + 1 + k) = H.size + k
def j_lv (ad : Nat → Nat) (ls : Array Slot) (n : Nat) (lv : j_L) : Prop := lv_has ls n (lv.map (fun q => (q.1, j_v ad q.2)))
def j_Fix (D : va_G) (ad : Nat → Nat) (tc : Nat → ClassId) (L : Nat) (xs : Nat → Int32) (M : j_M) (p : Program) (s : State) (m : MethodId) (args : Array Value) (meth : Method) (c : Code) : Prop :=
  p.tables.exec = Jvm.exec ∧ c.code = M.2.1 ∧ c.maxLocals = M.2.2.1 ∧ s.vm.findClass M.1.cls = some m.cls ∧ (∀ w ∈ j_all, w.before args s = true) ∧ j_KW s ∧ va_K D j_cl (j_tys tc) s ∧ va_X (ad 0) L xs s s.heap ∧ ad 0 < s.heap.size ∧ meth.name = M.1.name ∧ ∀ i j, ad i = ad j → i = j
def j_ret (ins : Instr) (r : Option Value) : Prop := match ins, r with
  | .ireturn, some (.int _) => True
  | .lreturn, some (.long _) => True
  | .freturn, some (.float _) => True
  | .dreturn, some (.double _) => True
  | .areturn, some (.ref _) => True
  | .areturn, some .null => True
  | .return_, none => True
  | _, _ => False
/-- from this point of the method M, over the cells h, it comes to a return of r over the cells h' -/
def Rn (l : Launch) (D : va_G) (ad : Nat → Nat) (tc : Nat → ClassId) (L : Nat) (xs : Nat → Int32) (M : j_M) (d lo pc : Nat) (lv : j_L) (st : List Value) (h : j_H) (r : Option Value) (h' : j_H) : Prop :=
  (h.1.length ≤ h'.1.length ∧ h.2 ≤ h'.2) ∧
  ∀ (p : Program) (e : Env) (R : Room) (s : State) (m : MethodId) (args : Array Value) (below : List Frame) (meth : Method) (c : Code) (H : Heap) (locs : List Loc) (cells slots mc ms : Nat) (ls : Array Slot) (Q : State → Prop),
    j_Fix D ad tc L xs M p s m args meth c → d ≤ R.frames → lo ≤ R.locals → mc ≤ R.cells → ms ≤ R.slots →
    cells + (h'.1.length - h.1.length) = mc → slots + (h'.2 - h.2) = ms → j_lv ad ls M.2.2.1 lv → j_P D ad tc H h → va_S (j_A ad) s.heap H locs →
    (∀ (pcr : Nat) (lsr : Array Slot) (Hr : Heap) (locsr : List Loc) (ins : Instr), decode M.2.1 pcr = .ok (ins, 1) → j_ret ins r → j_P D ad tc Hr h' → va_S (j_A ad) s.heap Hr locsr → W p l e R s m args below meth c Hr locsr mc ms Q (F0 m pcr lsr (r.toList.map (j_v ad)))) →
    W p l e R s m args below meth c H locs cells slots Q (F0 m pc ls (st.map (j_v ad)))
section J1
variable {l : Launch} {D : va_G} {ad : Nat → Nat} {tc : Nat → ClassId} {L : Nat} {xs : Nat → Int32} {M : j_M} {d lo pc pc' : Nat} {lv lv' : j_L} {st st' : List Value} {h h' h2 : j_H} {r : Option Value}
/-- a step that changes neither cells nor locals -/
theorem rn_pure (f : ∀ (p : Program) (e : Env) (R : Room) (s : State) (m : MethodId) (args : Array Value) (below : List Frame) (meth : Method) (c : Code) (H : Heap) (locs : List Loc) (cells slots : Nat) (ls : Array Slot) (Q : State → Prop),
    j_Fix D ad tc L xs M p s m args meth c → d ≤ R.frames → lo ≤ R.locals → j_lv ad ls M.2.2.1 lv → j_P D ad tc H h → va_S (j_A ad) s.heap H locs → W p l e R s m args below meth c H locs cells slots Q (F0 m pc' ls (st'.map (j_v ad))) → W p l e R s m args below meth c H locs cells slots Q (F0 m pc ls (st.map (j_v ad))))
    (k : Rn l D ad tc L xs M d lo pc' lv st' h r h') : Rn l D ad tc L xs M d lo pc lv st h r h' :=
  ⟨k.1, fun p e R s m args below meth c H locs cells slots mc ms ls Q hF h1 h2 h3 h4 h5 h6 hl hP hS hQ => f p e R s m args below meth c H locs cells slots ls Q hF h1 h2 hl hP hS (k.2 p e R s m args below meth c H locs cells slots mc ms ls Q hF h1 h2 h3 h4 h5 h6 hl hP hS hQ)⟩
/-- a step that changes locals -/
theorem rn_loc (f : ∀ (p : Program) (e : Env) (R : Room) (s : State) (m : MethodId) (args : Array Value) (below : List Frame) (meth : Method) (c : Code) (H : Heap) (locs : List Loc) (cells slots : Nat) (ls : Array Slot) (Q : State → Prop),
    j_Fix D ad tc L xs M p s m args meth c → j_lv ad ls M.2.2.1 lv → (∀ ls : Array Slot, j_lv ad ls M.2.2.1 lv' → W p l e R s m args below meth c H locs cells slots Q (F0 m pc' ls (st'.map (j_v ad)))) → W p l e R s m args below meth c H locs cells slots Q (F0 m pc ls (st.map (j_v ad))))
    (k : Rn l D ad tc L xs M d lo pc' lv' st' h r h') : Rn l D ad tc L xs M d lo pc lv st h r h' :=
  ⟨k.1, fun p e R s m args below meth c H locs cells slots mc ms ls Q hF h1 h2 h3 h4 h5 h6 hl hP hS hQ => f p e R s m args below meth c H locs cells slots ls Q hF hl (fun ls hl => k.2 p e R s m args below meth c H locs cells slots mc ms ls Q hF h1 h2 h3 h4 h5 h6 hl hP hS hQ)⟩
/-- a step that changes a cell -/
theorem rn_cell (e1 : h2.1.length = h.1.length) (e2 : h2.2 = h.2) (f : ∀ (p : Program) (e : Env) (R : Room) (s : State) (m : MethodId) (args : Array Value) (below : List Frame) (meth : Method) (c : Code) (H : Heap) (locs : List Loc) (cells slots : Nat) (ls : Array Slot) (Q : State → Prop),
    j_Fix D ad tc L xs M p s m args meth c → j_lv ad ls M.2.2.1 lv → j_P D ad tc H h → va_S (j_A ad) s.heap H locs → (∀ (H : Heap) (locs : List Loc), j_P D ad tc H h2 → va_S (j_A ad) s.heap H locs → W p l e R s m args below meth c H locs cells slots Q (F0 m pc' ls (st'.map (j_v ad)))) → W p l e R s m args below meth c H locs cells slots Q (F0 m pc ls (st.map (j_v ad))))
    (k : Rn l D ad tc L xs M d lo pc' lv st' h2 r h') : Rn l D ad tc L xs M d lo pc lv st h r h' :=
  ⟨by rw [← e1, ← e2]; exact k.1, fun p e R s m args below meth c H locs cells slots mc ms ls Q hF h1 h2 h3 h4 h5 h6 hl hP hS hQ => f p e R s m args below meth c H locs cells slots ls Q hF hl hP hS (fun H locs hP hS => k.2 p e R s m args below meth c H locs cells slots mc ms ls Q hF h1 h2 h3 h4 (by rw [e1]; exact h5) (by rw [e2]; exact h6) hl hP hS hQ)⟩
/-- a step that makes a cell of n slots -/
theorem rn_make {x : j_C} {n : Nat} (f : ∀ (p : Program) (e : Env) (R : Room) (s : State) (m : MethodId) (args : Array Value) (below : List Frame) (meth : Method) (c : Code) (H : Heap) (locs : List Loc) (cells slots : Nat) (ls : Array Slot) (Q : State → Prop),
    j_Fix D ad tc L xs M p s m args meth c → cells + 1 ≤ R.cells → slots + n ≤ R.slots → j_P D ad tc H h → va_S (j_A ad) s.heap H locs → (∀ (H : Heap), j_P D ad tc H (h.1 ++ [x], h.2 + n) → va_S (j_A ad) s.heap H locs → W p l e R s m args below meth c H locs (cells + 1) (slots + n) Q (F0 m pc' ls (st'.map (j_v ad)))) → W p l e R s m args below meth c H locs cells slots Q (F0 m pc ls (st.map (j_v ad))))
    (k : Rn l D ad tc L xs M d lo pc' lv st' (h.1 ++ [x], h.2 + n) r h') : Rn l D ad tc L xs M d lo pc lv st h r h' := by
  have hk := k.1
  simp only [List.length_append, List.length_cons, List.length_nil] at hk
  refine ⟨⟨by omega, by omega⟩, fun p e R s m args below meth c H locs cells slots mc ms ls Q hF h1 h2 h3 h4 h5 h6 hl hP hS hQ => f p e R s m args below meth c H locs cells slots ls Q hF (by omega) (by omega) hP hS (fun H hP hS => k.2 p e R s m args below meth c H locs (cells + 1) (slots + n) mc ms ls Q hF h1 h2 h3 h4 ?_ ?_ hl hP hS hQ)⟩
  · simp only [List.length_append, List.length_cons, List.length_nil]
    omega
  · show slots + n + (h'.2 - (h.2 + n)) = ms
    omega
end J1
end
section
/-! the locals of the little machine: what is known of them, by their numbers -/
def j_g : j_L → Nat → Option Value := fun lv i => match lv with
  | [] => none
  | q :: r => if q.1 = i then some q.2 else j_g r i
def j_s1 (i : Nat) (v : Value) (lv : j_L) : j_L := (i, v) :: lv.filter (fun q => !(q.1 == i) && !(q.1 + 1 == i && q.2.category == 2))
def j_s2 (i : Nat) (v : Value) (lv : j_L) : j_L := (i, v) :: lv.filter (fun q => !(q.1 == i) && (!(q.1 == i + 1) && !(q.1 + 1 == i && q.2.category == 2)))
theorem j_cat {ad : Nat → Nat} (v : Value) : (j_v ad v).category = v.category := by cases v <;> rfl
theorem j_g_mem : ∀ {lv : j_L} {i : Nat} {v : Value}, j_g lv i = some v → (i, v) ∈ lv
  | [], i, v, h => by simp [j_g] at h
  | q :: r, i, v, h => by
    unfold j_g at h
    split at h
    · rename_i e
      cases h
      subst e
      exact List.mem_cons_self
    · exact List.mem_cons_of_mem _ (j_g_mem h)
theorem j_at {ad : Nat → Nat} {ls : Array Slot} {n : Nat} {lv : j_L} (h : j_lv ad ls n lv) {i : Nat} {v : Value} (hg : j_g lv i = some v) : ls[i]? = some (.val (j_v ad v)) :=
  h.2.2 (i, j_v ad v) (List.mem_map.mpr ⟨(i, v), j_g_mem hg, rfl⟩)
theorem j_s1_map {ad : Nat → Nat} {i : Nat} {v : Value} {lv : j_L} : (i, j_v ad v) :: (lv.map (fun q => (q.1, j_v ad q.2))).filter (fun q => !(q.1 == i) && !(q.1 + 1 == i && q.2.category == 2)) = (j_s1 i v lv).map (fun q => (q.1, j_v ad q.2)) := by
  unfold j_s1
  rw [List.map_cons, List.filter_map]
  congr 2
  refine List.filter_congr fun q _ => ?_
  simp [j_cat]
theorem j_s2_map {ad : Nat → Nat} {i : Nat} {v : Value} {lv : j_L} : (i, j_v ad v) :: (lv.map (fun q => (q.1, j_v ad q.2))).filter (fun q => !(q.1 == i) && (!(q.1 == i + 1) && !(q.1 + 1 == i && q.2.category == 2))) = (j_s2 i v lv).map (fun q => (q.1, j_v ad q.2)) := by
  unfold j_s2
  rw [List.map_cons, List.filter_map]
  congr 2
  refine List.filter_congr fun q _ => ?_
  simp [j_cat]
/-- fewer locals known -/
theorem rn_sub {l : Launch} {D : va_G} {ad : Nat → Nat} {tc : Nat → ClassId} {L : Nat} {xs : Nat → Int32} {M : j_M} {d lo pc : Nat} {lv lv' : j_L} {st : List Value} {h h' : j_H} {r : Option Value} (hs : ∀ q ∈ lv', q ∈ lv) (k : Rn l D ad tc L xs M d lo pc lv' st h r h') : Rn l D ad tc L xs M d lo pc lv st h r h' :=
  ⟨k.1, fun p e R s m args below meth c H locs cells slots mc ms ls Q hF h1 h2 h3 h4 h5 h6 hl hP hS hQ => k.2 p e R s m args below meth c H locs cells slots mc ms ls Q hF h1 h2 h3 h4 h5 h6 ⟨hl.1, hl.2.1, fun q hq => by
    obtain ⟨q0, hq0, e⟩ := List.mem_map.mp hq
    exact hl.2.2 q (List.mem_map.mpr ⟨q0, hs q0 hq0, e⟩)⟩ hP hS hQ⟩
end
section
section J2
variable {l : Launch} {D : va_G} {ad : Nat → Nat} {tc : Nat → ClassId} {L : Nat} {xs : Nat → Int32} {M : j_M} {d lo pc : Nat} {lv : j_L} {st : List Value} {h h' : j_H} {r : Option Value}
theorem rn_iconst {n : Int} {v : Int32} (hd : decode M.2.1 pc = .ok (.iconst n, 1)) (hv : Int32.ofInt n = v) (k : Rn l D ad tc L xs M d lo (pc + 1) lv (.int v :: st) h r h') : Rn l D ad tc L xs M d lo pc lv (st) h r h' :=
  rn_pure (fun p e R s m args below meth c H locs cells slots ls Q hF hd1 hd2 hl hP hS k => lv_iconst hF.1 hF.2.1 hd hv k) k
theorem rn_bipush {n : Int} {v : Int32} (hd : decode M.2.1 pc = .ok (.bipush n, 2)) (hv : (Int8.ofInt n).toInt32 = v) (k : Rn l D ad tc L xs M d lo (pc + 2) lv (.int v :: st) h r h') : Rn l D ad tc L xs M d lo pc lv (st) h r h' :=
  rn_pure (fun p e R s m args below meth c H locs cells slots ls Q hF hd1 hd2 hl hP hS k => lv_bipush hF.1 hF.2.1 hd hv k) k
theorem rn_sipush {n : Int} {v : Int32} (hd : decode M.2.1 pc = .ok (.sipush n, 3)) (hv : (Int16.ofInt n).toInt32 = v) (k : Rn l D ad tc L xs M d lo (pc + 3) lv (.int v :: st) h r h') : Rn l D ad tc L xs M d lo pc lv (st) h r h' :=
  rn_pure (fun p e R s m args below meth c H locs cells slots ls Q hF hd1 hd2 hl hP hS k => lv_sipush hF.1 hF.2.1 hd hv k) k
theorem rn_lconst {n : Fin 2} {v : Int64} (hd : decode M.2.1 pc = .ok (.lconst n, 1)) (hv : Int64.ofNat (n : Nat) = v) (k : Rn l D ad tc L xs M d lo (pc + 1) lv (.long v :: st) h r h') : Rn l D ad tc L xs M d lo pc lv (st) h r h' :=
  rn_pure (fun p e R s m args below meth c H locs cells slots ls Q hF hd1 hd2 hl hP hS k => lv_lconst hF.1 hF.2.1 hd hv k) k
theorem rn_fconst0  (hd : decode M.2.1 pc = .ok (.fconst 0, 1)) (k : Rn l D ad tc L xs M d lo (pc + 1) lv (.float FP.fconst0 :: st) h r h') : Rn l D ad tc L xs M d lo pc lv (st) h r h' :=
  rn_pure (fun p e R s m args below meth c H locs cells slots ls Q hF hd1 hd2 hl hP hS k => lv_fconst0 hF.1 hF.2.1 hd k) k
theorem rn_fconst1  (hd : decode M.2.1 pc = .ok (.fconst 1, 1)) (k : Rn l D ad tc L xs M d lo (pc + 1) lv (.float FP.fconst1 :: st) h r h') : Rn l D ad tc L xs M d lo pc lv (st) h r h' :=
  rn_pure (fun p e R s m args below meth c H locs cells slots ls Q hF hd1 hd2 hl hP hS k => lv_fconst1 hF.1 hF.2.1 hd k) k
theorem rn_fconst2  (hd : decode M.2.1 pc = .ok (.fconst 2, 1)) (k : Rn l D ad tc L xs M d lo (pc + 1) lv (.float FP.fconst2 :: st) h r h') : Rn l D ad tc L xs M d lo pc lv (st) h r h' :=
  rn_pure (fun p e R s m args below meth c H locs cells slots ls Q hF hd1 hd2 hl hP hS k => lv_fconst2 hF.1 hF.2.1 hd k) k
theorem rn_dconst0  (hd : decode M.2.1 pc = .ok (.dconst 0, 1)) (k : Rn l D ad tc L xs M d lo (pc + 1) lv (.double FP.dconst0 :: st) h r h') : Rn l D ad tc L xs M d lo pc lv (st) h r h' :=
  rn_pure (fun p e R s m args below meth c H locs cells slots ls Q hF hd1 hd2 hl hP hS k => lv_dconst0 hF.1 hF.2.1 hd k) k
theorem rn_dconst1  (hd : decode M.2.1 pc = .ok (.dconst 1, 1)) (k : Rn l D ad tc L xs M d lo (pc + 1) lv (.double FP.dconst1 :: st) h r h') : Rn l D ad tc L xs M d lo pc lv (st) h r h' :=
  rn_pure (fun p e R s m args below meth c H locs cells slots ls Q hF hd1 hd2 hl hP hS k => lv_dconst1 hF.1 hF.2.1 hd k) k
theorem rn_null  (hd : decode M.2.1 pc = .ok (.aconst_null, 1)) (k : Rn l D ad tc L xs M d lo (pc + 1) lv (.null :: st) h r h') : Rn l D ad tc L xs M d lo pc lv (st) h r h' :=
  rn_pure (fun p e R s m args below meth c H locs cells slots ls Q hF hd1 hd2 hl hP hS k => lv_null hF.1 hF.2.1 hd k) k
theorem rn_ldc2d {index : Nat} {v : UInt64} (hd : decode M.2.1 pc = .ok (.ldc2_w index, 3)) (hw : Cond.constantDouble M.1.cls index v ∈ j_all) (k : Rn l D ad tc L xs M d lo (pc + 3) lv (.double v :: st) h r h') : Rn l D ad tc L xs M d lo pc lv (st) h r h' :=
  rn_pure (fun p e R s m args below meth c H locs cells slots ls Q hF hd1 hd2 hl hP hS k => lv_ldc2d hF.1 hF.2.1 hF.2.2.2.1 (hF.2.2.2.2.1 _ hw) hd k) k
theorem rn_ldcf {index : Nat} {v : UInt32} (hd : decode M.2.1 pc = .ok (.ldc index, 2)) (hw : Cond.constantFloat M.1.cls index v ∈ j_all) (k : Rn l D ad tc L xs M d lo (pc + 2) lv (.float v :: st) h r h') : Rn l D ad tc L xs M d lo pc lv (st) h r h' :=
  rn_pure (fun p e R s m args below meth c H locs cells slots ls Q hF hd1 hd2 hl hP hS k => lv_ldcf hF.1 hF.2.1 hF.2.2.2.1 (hF.2.2.2.2.1 _ hw) hd k) k
theorem rn_ldc {index : Nat} {v : Int32} (hd : decode M.2.1 pc = .ok (.ldc index, 2)) (hw : Cond.constant M.1.cls index v ∈ j_all) (k : Rn l D ad tc L xs M d lo (pc + 2) lv (.int v :: st) h r h') : Rn l D ad tc L xs M d lo pc lv (st) h r h' :=
  rn_pure (fun p e R s m args below meth c H locs cells slots ls Q hF hd1 hd2 hl hP hS k => lv_ldc hF.1 hF.2.1 hF.2.2.2.1 (hF.2.2.2.2.1 _ hw) hd k) k
theorem rn_ldcw {index : Nat} {v : Int32} (hd : decode M.2.1 pc = .ok (.ldc_w index, 3)) (hw : Cond.constant M.1.cls index v ∈ j_all) (k : Rn l D ad tc L xs M d lo (pc + 3) lv (.int v :: st) h r h') : Rn l D ad tc L xs M d lo pc lv (st) h r h' :=
  rn_pure (fun p e R s m args below meth c H locs cells slots ls Q hF hd1 hd2 hl hP hS k => lv_ldcw hF.1 hF.2.1 hF.2.2.2.1 (hF.2.2.2.2.1 _ hw) hd k) k
theorem rn_ldc2 {index : Nat} {v : Int64} (hd : decode M.2.1 pc = .ok (.ldc2_w index, 3)) (hw : Cond.constantLong M.1.cls index v ∈ j_all) (k : Rn l D ad tc L xs M d lo (pc + 3) lv (.long v :: st) h r h') : Rn l D ad tc L xs M d lo pc lv (st) h r h' :=
  rn_pure (fun p e R s m args below meth c H locs cells slots ls Q hF hd1 hd2 hl hP hS k => lv_ldc2 hF.1 hF.2.1 hF.2.2.2.1 (hF.2.2.2.2.1 _ hw) hd k) k
theorem rn_iload_n {k0 : Fin 4} {x : Int32} (hd : decode M.2.1 pc = .ok (.iload_n k0, 1)) (hg : j_g lv (k0 : Nat) = some (.int x)) (k : Rn l D ad tc L xs M d lo (pc + 1) lv (.int x :: st) h r h') : Rn l D ad tc L xs M d lo pc lv (st) h r h' :=
  rn_pure (fun p e R s m args below meth c H locs cells slots ls Q hF hd1 hd2 hl hP hS k => lv_iload_n hF.1 hF.2.1 hd rfl (j_at hl hg) k) k
theorem rn_iload {i : Nat} {x : Int32} (hd : decode M.2.1 pc = .ok (.iload i, 2)) (hg : j_g lv i = some (.int x)) (k : Rn l D ad tc L xs M d lo (pc + 2) lv (.int x :: st) h r h') : Rn l D ad tc L xs M d lo pc lv (st) h r h' :=
  rn_pure (fun p e R s m args below meth c H locs cells slots ls Q hF hd1 hd2 hl hP hS k => lv_iload hF.1 hF.2.1 hd (j_at hl hg) k) k
theorem rn_lload_n {k0 : Fin 4} {x : Int64} (hd : decode M.2.1 pc = .ok (.lload_n k0, 1)) (hg : j_g lv (k0 : Nat) = some (.long x)) (k : Rn l D ad tc L xs M d lo (pc + 1) lv (.long x :: st) h r h') : Rn l D ad tc L xs M d lo pc lv (st) h r h' :=
  rn_pure (fun p e R s m args below meth c H locs cells slots ls Q hF hd1 hd2 hl hP hS k => lv_lload_n hF.1 hF.2.1 hd rfl (j_at hl hg) k) k
theorem rn_lload {i : Nat} {x : Int64} (hd : decode M.2.1 pc = .ok (.lload i, 2)) (hg : j_g lv i = some (.long x)) (k : Rn l D ad tc L xs M d lo (pc + 2) lv (.long x :: st) h r h') : Rn l D ad tc L xs M d lo pc lv (st) h r h' :=
  rn_pure (fun p e R s m args below meth c H locs cells slots ls Q hF hd1 hd2 hl hP hS k => lv_lload hF.1 hF.2.1 hd (j_at hl hg) k) k
theorem rn_fload_n {k0 : Fin 4} {x : UInt32} (hd : decode M.2.1 pc = .ok (.fload_n k0, 1)) (hg : j_g lv (k0 : Nat) = some (.float x)) (k : Rn l D ad tc L xs M d lo (pc + 1) lv (.float x :: st) h r h') : Rn l D ad tc L xs M d lo pc lv (st) h r h' :=
  rn_pure (fun p e R s m args below meth c H locs cells slots ls Q hF hd1 hd2 hl hP hS k => lv_fload_n hF.1 hF.2.1 hd rfl (j_at hl hg) k) k
theorem rn_fload {i : Nat} {x : UInt32} (hd : decode M.2.1 pc = .ok (.fload i, 2)) (hg : j_g lv i = some (.float x)) (k : Rn l D ad tc L xs M d lo (pc + 2) lv (.float x :: st) h r h') : Rn l D ad tc L xs M d lo pc lv (st) h r h' :=
  rn_pure (fun p e R s m args below meth c H locs cells slots ls Q hF hd1 hd2 hl hP hS k => lv_fload hF.1 hF.2.1 hd (j_at hl hg) k) k
theorem rn_dload_n {k0 : Fin 4} {x : UInt64} (hd : decode M.2.1 pc = .ok (.dload_n k0, 1)) (hg : j_g lv (k0 : Nat) = some (.double x)) (k : Rn l D ad tc L xs M d lo (pc + 1) lv (.double x :: st) h r h') : Rn l D ad tc L xs M d lo pc lv (st) h r h' :=
  rn_pure (fun p e R s m args below meth c H locs cells slots ls Q hF hd1 hd2 hl hP hS k => lv_dload_n hF.1 hF.2.1 hd rfl (j_at hl hg) k) k
theorem rn_dload {i : Nat} {x : UInt64} (hd : decode M.2.1 pc = .ok (.dload i, 2)) (hg : j_g lv i = some (.double x)) (k : Rn l D ad tc L xs M d lo (pc + 2) lv (.double x :: st) h r h') : Rn l D ad tc L xs M d lo pc lv (st) h r h' :=
  rn_pure (fun p e R s m args below meth c H locs cells slots ls Q hF hd1 hd2 hl hP hS k => lv_dload hF.1 hF.2.1 hd (j_at hl hg) k) k
theorem rn_aload_n {k0 : Fin 4} {x : Nat} (hd : decode M.2.1 pc = .ok (.aload_n k0, 1)) (hg : j_g lv (k0 : Nat) = some (.ref x)) (k : Rn l D ad tc L xs M d lo (pc + 1) lv (.ref x :: st) h r h') : Rn l D ad tc L xs M d lo pc lv (st) h r h' :=
  rn_pure (fun p e R s m args below meth c H locs cells slots ls Q hF hd1 hd2 hl hP hS k => lv_aload_n hF.1 hF.2.1 hd rfl (j_at hl hg) k) k
theorem rn_aload {i : Nat} {x : Nat} (hd : decode M.2.1 pc = .ok (.aload i, 2)) (hg : j_g lv i = some (.ref x)) (k : Rn l D ad tc L xs M d lo (pc + 2) lv (.ref x :: st) h r h') : Rn l D ad tc L xs M d lo pc lv (st) h r h' :=
  rn_pure (fun p e R s m args below meth c H locs cells slots ls Q hF hd1 hd2 hl hP hS k => lv_aload hF.1 hF.2.1 hd (j_at hl hg) k) k
theorem rn_aload_nN {k0 : Fin 4} (hd : decode M.2.1 pc = .ok (.aload_n k0, 1)) (hg : j_g lv (k0 : Nat) = some .null) (k : Rn l D ad tc L xs M d lo (pc + 1) lv (.null :: st) h r h') : Rn l D ad tc L xs M d lo pc lv (st) h r h' :=
  rn_pure (fun p e R s m args below meth c H locs cells slots ls Q hF hd1 hd2 hl hP hS k => lv_aload_nN hF.1 hF.2.1 hd rfl (j_at hl hg) k) k
theorem rn_aloadN {i : Nat} (hd : decode M.2.1 pc = .ok (.aload i, 2)) (hg : j_g lv i = some .null) (k : Rn l D ad tc L xs M d lo (pc + 2) lv (.null :: st) h r h') : Rn l D ad tc L xs M d lo pc lv (st) h r h' :=
  rn_pure (fun p e R s m args below meth c H locs cells slots ls Q hF hd1 hd2 hl hP hS k => lv_aloadN hF.1 hF.2.1 hd (j_at hl hg) k) k
theorem rn_iadd {x y : Int32} (hd : decode M.2.1 pc = .ok (.iadd, 1)) (k : Rn l D ad tc L xs M d lo (pc + 1) lv (.int (x + y) :: st) h r h') : Rn l D ad tc L xs M d lo pc lv (.int y :: .int x :: st) h r h' :=
  rn_pure (fun p e R s m args below meth c H locs cells slots ls Q hF hd1 hd2 hl hP hS k => lv_iadd hF.1 hF.2.1 hd k) k
theorem rn_ladd {x y : Int64} (hd : decode M.2.1 pc = .ok (.ladd, 1)) (k : Rn l D ad tc L xs M d lo (pc + 1) lv (.long (x + y) :: st) h r h') : Rn l D ad tc L xs M d lo pc lv (.long y :: .long x :: st) h r h' :=
  rn_pure (fun p e R s m args below meth c H locs cells slots ls Q hF hd1 hd2 hl hP hS k => lv_ladd hF.1 hF.2.1 hd k) k
theorem rn_isub {x y : Int32} (hd : decode M.2.1 pc = .ok (.isub, 1)) (k : Rn l D ad tc L xs M d lo (pc + 1) lv (.int (x - y) :: st) h r h') : Rn l D ad tc L xs M d lo pc lv (.int y :: .int x :: st) h r h' :=
  rn_pure (fun p e R s m args below meth c H locs cells slots ls Q hF hd1 hd2 hl hP hS k => lv_isub hF.1 hF.2.1 hd k) k
theorem rn_lsub {x y : Int64} (hd : decode M.2.1 pc = .ok (.lsub, 1)) (k : Rn l D ad tc L xs M d lo (pc + 1) lv (.long (x - y) :: st) h r h') : Rn l D ad tc L xs M d lo pc lv (.long y :: .long x :: st) h r h' :=
  rn_pure (fun p e R s m args below meth c H locs cells slots ls Q hF hd1 hd2 hl hP hS k => lv_lsub hF.1 hF.2.1 hd k) k
theorem rn_imul {x y : Int32} (hd : decode M.2.1 pc = .ok (.imul, 1)) (k : Rn l D ad tc L xs M d lo (pc + 1) lv (.int (x * y) :: st) h r h') : Rn l D ad tc L xs M d lo pc lv (.int y :: .int x :: st) h r h' :=
  rn_pure (fun p e R s m args below meth c H locs cells slots ls Q hF hd1 hd2 hl hP hS k => lv_imul hF.1 hF.2.1 hd k) k
theorem rn_lmul {x y : Int64} (hd : decode M.2.1 pc = .ok (.lmul, 1)) (k : Rn l D ad tc L xs M d lo (pc + 1) lv (.long (x * y) :: st) h r h') : Rn l D ad tc L xs M d lo pc lv (.long y :: .long x :: st) h r h' :=
  rn_pure (fun p e R s m args below meth c H locs cells slots ls Q hF hd1 hd2 hl hP hS k => lv_lmul hF.1 hF.2.1 hd k) k
theorem rn_iand {x y : Int32} (hd : decode M.2.1 pc = .ok (.iand, 1)) (k : Rn l D ad tc L xs M d lo (pc + 1) lv (.int (x &&& y) :: st) h r h') : Rn l D ad tc L xs M d lo pc lv (.int y :: .int x :: st) h r h' :=
  rn_pure (fun p e R s m args below meth c H locs cells slots ls Q hF hd1 hd2 hl hP hS k => lv_iand hF.1 hF.2.1 hd k) k
theorem rn_land {x y : Int64} (hd : decode M.2.1 pc = .ok (.land, 1)) (k : Rn l D ad tc L xs M d lo (pc + 1) lv (.long (x &&& y) :: st) h r h') : Rn l D ad tc L xs M d lo pc lv (.long y :: .long x :: st) h r h' :=
  rn_pure (fun p e R s m args below meth c H locs cells slots ls Q hF hd1 hd2 hl hP hS k => lv_land hF.1 hF.2.1 hd k) k
theorem rn_ior {x y : Int32} (hd : decode M.2.1 pc = .ok (.ior, 1)) (k : Rn l D ad tc L xs M d lo (pc + 1) lv (.int (x ||| y) :: st) h r h') : Rn l D ad tc L xs M d lo pc lv (.int y :: .int x :: st) h r h' :=
  rn_pure (fun p e R s m args below meth c H locs cells slots ls Q hF hd1 hd2 hl hP hS k => lv_ior hF.1 hF.2.1 hd k) k
theorem rn_lor {x y : Int64} (hd : decode M.2.1 pc = .ok (.lor, 1)) (k : Rn l D ad tc L xs M d lo (pc + 1) lv (.long (x ||| y) :: st) h r h') : Rn l D ad tc L xs M d lo pc lv (.long y :: .long x :: st) h r h' :=
  rn_pure (fun p e R s m args below meth c H locs cells slots ls Q hF hd1 hd2 hl hP hS k => lv_lor hF.1 hF.2.1 hd k) k
theorem rn_ixor {x y : Int32} (hd : decode M.2.1 pc = .ok (.ixor, 1)) (k : Rn l D ad tc L xs M d lo (pc + 1) lv (.int (x ^^^ y) :: st) h r h') : Rn l D ad tc L xs M d lo pc lv (.int y :: .int x :: st) h r h' :=
  rn_pure (fun p e R s m args below meth c H locs cells slots ls Q hF hd1 hd2 hl hP hS k => lv_ixor hF.1 hF.2.1 hd k) k
theorem rn_lxor {x y : Int64} (hd : decode M.2.1 pc = .ok (.lxor, 1)) (k : Rn l D ad tc L xs M d lo (pc + 1) lv (.long (x ^^^ y) :: st) h r h') : Rn l D ad tc L xs M d lo pc lv (.long y :: .long x :: st) h r h' :=
  rn_pure (fun p e R s m args below meth c H locs cells slots ls Q hF hd1 hd2 hl hP hS k => lv_lxor hF.1 hF.2.1 hd k) k
theorem rn_ineg {x : Int32} (hd : decode M.2.1 pc = .ok (.ineg, 1)) (k : Rn l D ad tc L xs M d lo (pc + 1) lv (.int (-x) :: st) h r h') : Rn l D ad tc L xs M d lo pc lv (.int x :: st) h r h' :=
  rn_pure (fun p e R s m args below meth c H locs cells slots ls Q hF hd1 hd2 hl hP hS k => lv_ineg hF.1 hF.2.1 hd k) k
theorem rn_idiv {x y : Int32} (hd : decode M.2.1 pc = .ok (.idiv, 1)) (hne : ¬ y = 0) (k : Rn l D ad tc L xs M d lo (pc + 1) lv (.int (x / y) :: st) h r h') : Rn l D ad tc L xs M d lo pc lv (.int y :: .int x :: st) h r h' :=
  rn_pure (fun p e R s m args below meth c H locs cells slots ls Q hF hd1 hd2 hl hP hS k => lv_idiv hF.1 hF.2.1 hd hne k) k
theorem rn_irem {x y : Int32} (hd : decode M.2.1 pc = .ok (.irem, 1)) (hne : ¬ y = 0) (k : Rn l D ad tc L xs M d lo (pc + 1) lv (.int (x - x / y * y) :: st) h r h') : Rn l D ad tc L xs M d lo pc lv (.int y :: .int x :: st) h r h' :=
  rn_pure (fun p e R s m args below meth c H locs cells slots ls Q hF hd1 hd2 hl hP hS k => lv_irem hF.1 hF.2.1 hd hne k) k
theorem rn_ishl {x y : Int32} (hd : decode M.2.1 pc = .ok (.ishl, 1)) (k : Rn l D ad tc L xs M d lo (pc + 1) lv (.int (x <<< (y &&& 31)) :: st) h r h') : Rn l D ad tc L xs M d lo pc lv (.int y :: .int x :: st) h r h' :=
  rn_pure (fun p e R s m args below meth c H locs cells slots ls Q hF hd1 hd2 hl hP hS k => lv_ishl hF.1 hF.2.1 hd k) k
theorem rn_ishr {x y : Int32} (hd : decode M.2.1 pc = .ok (.ishr, 1)) (k : Rn l D ad tc L xs M d lo (pc + 1) lv (.int (x >>> (y &&& 31)) :: st) h r h') : Rn l D ad tc L xs M d lo pc lv (.int y :: .int x :: st) h r h' :=
  rn_pure (fun p e R s m args below meth c H locs cells slots ls Q hF hd1 hd2 hl hP hS k => lv_ishr hF.1 hF.2.1 hd k) k
theorem rn_iushr {x y v : Int32} (hd : decode M.2.1 pc = .ok (.iushr, 1)) (hv : (x.toUInt32 >>> (y.toUInt32 &&& Int32.toUInt32 31)).toInt32 = v) (k : Rn l D ad tc L xs M d lo (pc + 1) lv (.int v :: st) h r h') : Rn l D ad tc L xs M d lo pc lv (.int y :: .int x :: st) h r h' :=
  rn_pure (fun p e R s m args below meth c H locs cells slots ls Q hF hd1 hd2 hl hP hS k => lv_iushr hF.1 hF.2.1 hd hv k) k
theorem rn_i2l {x : Int32} {v : Int64} (hd : decode M.2.1 pc = .ok (.i2l, 1)) (hv : x.toInt64 = v) (k : Rn l D ad tc L xs M d lo (pc + 1) lv (.long v :: st) h r h') : Rn l D ad tc L xs M d lo pc lv (.int x :: st) h r h' :=
  rn_pure (fun p e R s m args below meth c H locs cells slots ls Q hF hd1 hd2 hl hP hS k => lv_i2l hF.1 hF.2.1 hd hv k) k
theorem rn_l2i {x : Int64} {v : Int32} (hd : decode M.2.1 pc = .ok (.l2i, 1)) (hv : x.toInt32 = v) (k : Rn l D ad tc L xs M d lo (pc + 1) lv (.int v :: st) h r h') : Rn l D ad tc L xs M d lo pc lv (.long x :: st) h r h' :=
  rn_pure (fun p e R s m args below meth c H locs cells slots ls Q hF hd1 hd2 hl hP hS k => lv_l2i hF.1 hF.2.1 hd hv k) k
theorem rn_lcmp {x y : Int64} (hd : decode M.2.1 pc = .ok (.lcmp, 1)) (k : Rn l D ad tc L xs M d lo (pc + 1) lv (.int (lg_cmp x y) :: st) h r h') : Rn l D ad tc L xs M d lo pc lv (.long y :: .long x :: st) h r h' :=
  rn_pure (fun p e R s m args below meth c H locs cells slots ls Q hF hd1 hd2 hl hP hS k => W.lcmp hF.1 hF.2.1 hd k) k
theorem rn_dup {a : Value} (hd : decode M.2.1 pc = .ok (.dup, 1)) (ha : a.category = 1) (k : Rn l D ad tc L xs M d lo (pc + 1) lv (a :: a :: st) h r h') : Rn l D ad tc L xs M d lo pc lv (a :: st) h r h' :=
  rn_pure (fun p e R s m args below meth c H locs cells slots ls Q hF hd1 hd2 hl hP hS k => lv_dup hF.1 hF.2.1 hd (by rw [j_cat]; exact ha) k) k
theorem rn_pop {a : Value} (hd : decode M.2.1 pc = .ok (.pop, 1)) (ha : a.category = 1) (k : Rn l D ad tc L xs M d lo (pc + 1) lv (st) h r h') : Rn l D ad tc L xs M d lo pc lv (a :: st) h r h' :=
  rn_pure (fun p e R s m args below meth c H locs cells slots ls Q hF hd1 hd2 hl hP hS k => lv_pop hF.1 hF.2.1 hd (by rw [j_cat]; exact ha) k) k
theorem rn_pop2 {a : Value} (hd : decode M.2.1 pc = .ok (.pop2, 1)) (ha : a.category = 2) (k : Rn l D ad tc L xs M d lo (pc + 1) lv (st) h r h') : Rn l D ad tc L xs M d lo pc lv (a :: st) h r h' :=
  rn_pure (fun p e R s m args below meth c H locs cells slots ls Q hF hd1 hd2 hl hP hS k => lv_pop2_2 hF.1 hF.2.1 hd (by rw [j_cat]; exact ha) k) k
theorem rn_dup_x1 {a b : Value} (hd : decode M.2.1 pc = .ok (.dup_x1, 1)) (ha : a.category = 1) (hb : b.category = 1) (k : Rn l D ad tc L xs M d lo (pc + 1) lv (a :: b :: a :: st) h r h') : Rn l D ad tc L xs M d lo pc lv (a :: b :: st) h r h' :=
  rn_pure (fun p e R s m args below meth c H locs cells slots ls Q hF hd1 hd2 hl hP hS k => lv_dup_x1 hF.1 hF.2.1 hd (by rw [j_cat]; exact ha) (by rw [j_cat]; exact hb) k) k
theorem rn_dup_x2 {a b c : Value} (hd : decode M.2.1 pc = .ok (.dup_x2, 1)) (ha : a.category = 1) (hb : b.category = 1) (hc : c.category = 1) (k : Rn l D ad tc L xs M d lo (pc + 1) lv (a :: b :: c :: a :: st) h r h') : Rn l D ad tc L xs M d lo pc lv (a :: b :: c :: st) h r h' :=
  rn_pure (fun p e R s m args below meth c H locs cells slots ls Q hF hd1 hd2 hl hP hS k => lv_dup_x2 hF.1 hF.2.1 hd (by rw [j_cat]; exact ha) (by rw [j_cat]; exact hb) (by rw [j_cat]; exact hc) k) k
theorem rn_dup2 {a b : Value} (hd : decode M.2.1 pc = .ok (.dup2, 1)) (ha : a.category = 1) (hb : b.category = 1) (k : Rn l D ad tc L xs M d lo (pc + 1) lv (a :: b :: a :: b :: st) h r h') : Rn l D ad tc L xs M d lo pc lv (a :: b :: st) h r h' :=
  rn_pure (fun p e R s m args below meth c H locs cells slots ls Q hF hd1 hd2 hl hP hS k => lv_dup2_11 hF.1 hF.2.1 hd (by rw [j_cat]; exact ha) (by rw [j_cat]; exact hb) k) k
theorem rn_dup2_2 {a : Value} (hd : decode M.2.1 pc = .ok (.dup2, 1)) (ha : a.category = 2) (k : Rn l D ad tc L xs M d lo (pc + 1) lv (a :: a :: st) h r h') : Rn l D ad tc L xs M d lo pc lv (a :: st) h r h' :=
  rn_pure (fun p e R s m args below meth c H locs cells slots ls Q hF hd1 hd2 hl hP hS k => lv_dup2_2 hF.1 hF.2.1 hd (by rw [j_cat]; exact ha) k) k
theorem rn_fadd {x y : UInt32} (hd : decode M.2.1 pc = .ok (.fadd, 1)) (hne : vf_n32 (FP.fadd x y)) (k : Rn l D ad tc L xs M d lo (pc + 1) lv (.float (FP.fadd x y) :: st) h r h') : Rn l D ad tc L xs M d lo pc lv (.float y :: .float x :: st) h r h' :=
  rn_pure (fun p e R s m args below meth c H locs cells slots ls Q hF hd1 hd2 hl hP hS k => lv_fadd hF.1 hF.2.1 hd hne k) k
theorem rn_fsub {x y : UInt32} (hd : decode M.2.1 pc = .ok (.fsub, 1)) (hne : vf_n32 (FP.fsub x y)) (k : Rn l D ad tc L xs M d lo (pc + 1) lv (.float (FP.fsub x y) :: st) h r h') : Rn l D ad tc L xs M d lo pc lv (.float y :: .float x :: st) h r h' :=
  rn_pure (fun p e R s m args below meth c H locs cells slots ls Q hF hd1 hd2 hl hP hS k => lv_fsub hF.1 hF.2.1 hd hne k) k
theorem rn_fmul {x y : UInt32} (hd : decode M.2.1 pc = .ok (.fmul, 1)) (hne : vf_n32 (FP.fmul x y)) (k : Rn l D ad tc L xs M d lo (pc + 1) lv (.float (FP.fmul x y) :: st) h r h') : Rn l D ad tc L xs M d lo pc lv (.float y :: .float x :: st) h r h' :=
  rn_pure (fun p e R s m args below meth c H locs cells slots ls Q hF hd1 hd2 hl hP hS k => lv_fmul hF.1 hF.2.1 hd hne k) k
theorem rn_fdiv {x y : UInt32} (hd : decode M.2.1 pc = .ok (.fdiv, 1)) (hne : vf_n32 (FP.fdiv x y)) (k : Rn l D ad tc L xs M d lo (pc + 1) lv (.float (FP.fdiv x y) :: st) h r h') : Rn l D ad tc L xs M d lo pc lv (.float y :: .float x :: st) h r h' :=
  rn_pure (fun p e R s m args below meth c H locs cells slots ls Q hF hd1 hd2 hl hP hS k => lv_fdiv hF.1 hF.2.1 hd hne k) k
theorem rn_fneg {x : UInt32} (hd : decode M.2.1 pc = .ok (.fneg, 1)) (k : Rn l D ad tc L xs M d lo (pc + 1) lv (.float (FP.fneg x) :: st) h r h') : Rn l D ad tc L xs M d lo pc lv (.float x :: st) h r h' :=
  rn_pure (fun p e R s m args below meth c H locs cells slots ls Q hF hd1 hd2 hl hP hS k => lv_fneg hF.1 hF.2.1 hd k) k
theorem rn_fcmp {x y : UInt32} {op : CmpOp} (hd : decode M.2.1 pc = .ok (.fcmp op, 1)) (k : Rn l D ad tc L xs M d lo (pc + 1) lv (.int (Op.cmpValue (FP.fcmp x y) op) :: st) h r h') : Rn l D ad tc L xs M d lo pc lv (.float y :: .float x :: st) h r h' :=
  rn_pure (fun p e R s m args below meth c H locs cells slots ls Q hF hd1 hd2 hl hP hS k => lv_fcmp hF.1 hF.2.1 hd k) k
theorem rn_dadd {x y : UInt64} (hd : decode M.2.1 pc = .ok (.dadd, 1)) (hne : vf_n64 (FP.dadd x y)) (k : Rn l D ad tc L xs M d lo (pc + 1) lv (.double (FP.dadd x y) :: st) h r h') : Rn l D ad tc L xs M d lo pc lv (.double y :: .double x :: st) h r h' :=
  rn_pure (fun p e R s m args below meth c H locs cells slots ls Q hF hd1 hd2 hl hP hS k => lv_dadd hF.1 hF.2.1 hd hne k) k
theorem rn_dsub {x y : UInt64} (hd : decode M.2.1 pc = .ok (.dsub, 1)) (hne : vf_n64 (FP.dsub x y)) (k : Rn l D ad tc L xs M d lo (pc + 1) lv (.double (FP.dsub x y) :: st) h r h') : Rn l D ad tc L xs M d lo pc lv (.double y :: .double x :: st) h r h' :=
  rn_pure (fun p e R s m args below meth c H locs cells slots ls Q hF hd1 hd2 hl hP hS k => lv_dsub hF.1 hF.2.1 hd hne k) k
theorem rn_dmul {x y : UInt64} (hd : decode M.2.1 pc = .ok (.dmul, 1)) (hne : vf_n64 (FP.dmul x y)) (k : Rn l D ad tc L xs M d lo (pc + 1) lv (.double (FP.dmul x y) :: st) h r h') : Rn l D ad tc L xs M d lo pc lv (.double y :: .double x :: st) h r h' :=
  rn_pure (fun p e R s m args below meth c H locs cells slots ls Q hF hd1 hd2 hl hP hS k => lv_dmul hF.1 hF.2.1 hd hne k) k
theorem rn_ddiv {x y : UInt64} (hd : decode M.2.1 pc = .ok (.ddiv, 1)) (hne : vf_n64 (FP.ddiv x y)) (k : Rn l D ad tc L xs M d lo (pc + 1) lv (.double (FP.ddiv x y) :: st) h r h') : Rn l D ad tc L xs M d lo pc lv (.double y :: .double x :: st) h r h' :=
  rn_pure (fun p e R s m args below meth c H locs cells slots ls Q hF hd1 hd2 hl hP hS k => lv_ddiv hF.1 hF.2.1 hd hne k) k
theorem rn_dneg {x : UInt64} (hd : decode M.2.1 pc = .ok (.dneg, 1)) (k : Rn l D ad tc L xs M d lo (pc + 1) lv (.double (FP.dneg x) :: st) h r h') : Rn l D ad tc L xs M d lo pc lv (.double x :: st) h r h' :=
  rn_pure (fun p e R s m args below meth c H locs cells slots ls Q hF hd1 hd2 hl hP hS k => lv_dneg hF.1 hF.2.1 hd k) k
theorem rn_dcmp {x y : UInt64} {op : CmpOp} (hd : decode M.2.1 pc = .ok (.dcmp op, 1)) (k : Rn l D ad tc L xs M d lo (pc + 1) lv (.int (Op.cmpValue (FP.dcmp x y) op) :: st) h r h') : Rn l D ad tc L xs M d lo pc lv (.double y :: .double x :: st) h r h' :=
  rn_pure (fun p e R s m args below meth c H locs cells slots ls Q hF hd1 hd2 hl hP hS k => lv_dcmp hF.1 hF.2.1 hd k) k
theorem rn_i2f {x : Int32} (hd : decode M.2.1 pc = .ok (.i2f, 1)) (k : Rn l D ad tc L xs M d lo (pc + 1) lv (.float (FP.i2f x) :: st) h r h') : Rn l D ad tc L xs M d lo pc lv (.int x :: st) h r h' :=
  rn_pure (fun p e R s m args below meth c H locs cells slots ls Q hF hd1 hd2 hl hP hS k => lv_i2f hF.1 hF.2.1 hd k) k
theorem rn_i2d {x : Int32} (hd : decode M.2.1 pc = .ok (.i2d, 1)) (k : Rn l D ad tc L xs M d lo (pc + 1) lv (.double (FP.i2d x) :: st) h r h') : Rn l D ad tc L xs M d lo pc lv (.int x :: st) h r h' :=
  rn_pure (fun p e R s m args below meth c H locs cells slots ls Q hF hd1 hd2 hl hP hS k => lv_i2d hF.1 hF.2.1 hd k) k
theorem rn_f2i {x : UInt32} (hd : decode M.2.1 pc = .ok (.f2i, 1)) (k : Rn l D ad tc L xs M d lo (pc + 1) lv (.int (FP.f2i x) :: st) h r h') : Rn l D ad tc L xs M d lo pc lv (.float x :: st) h r h' :=
  rn_pure (fun p e R s m args below meth c H locs cells slots ls Q hF hd1 hd2 hl hP hS k => lv_f2i hF.1 hF.2.1 hd k) k
theorem rn_f2l {x : UInt32} (hd : decode M.2.1 pc = .ok (.f2l, 1)) (k : Rn l D ad tc L xs M d lo (pc + 1) lv (.long (FP.f2l x) :: st) h r h') : Rn l D ad tc L xs M d lo pc lv (.float x :: st) h r h' :=
  rn_pure (fun p e R s m args below meth c H locs cells slots ls Q hF hd1 hd2 hl hP hS k => lv_f2l hF.1 hF.2.1 hd k) k
theorem rn_d2l {x : UInt64} (hd : decode M.2.1 pc = .ok (.d2l, 1)) (k : Rn l D ad tc L xs M d lo (pc + 1) lv (.long (FP.d2l x) :: st) h r h') : Rn l D ad tc L xs M d lo pc lv (.double x :: st) h r h' :=
  rn_pure (fun p e R s m args below meth c H locs cells slots ls Q hF hd1 hd2 hl hP hS k => lv_d2l hF.1 hF.2.1 hd k) k
theorem rn_f2d {x : UInt32} (hd : decode M.2.1 pc = .ok (.f2d, 1)) (hne : vf_n64 (FP.f2d x)) (k : Rn l D ad tc L xs M d lo (pc + 1) lv (.double (FP.f2d x) :: st) h r h') : Rn l D ad tc L xs M d lo pc lv (.float x :: st) h r h' :=
  rn_pure (fun p e R s m args below meth c H locs cells slots ls Q hF hd1 hd2 hl hP hS k => lv_f2d hF.1 hF.2.1 hd hne k) k
theorem rn_goto {off : Int} {tgt : Nat} (hd : decode M.2.1 pc = .ok (.goto off, 3)) (ht : (pc : Int) + off = (tgt : Int)) (k : Rn l D ad tc L xs M d lo tgt lv (st) h r h') : Rn l D ad tc L xs M d lo pc lv (st) h r h' :=
  rn_pure (fun p e R s m args below meth c H locs cells slots ls Q hF hd1 hd2 hl hP hS k => lv_goto hF.1 hF.2.1 hd ht k) k
theorem rn_ifnull {x : Nat} {off : Int} (hd : decode M.2.1 pc = .ok (.ifnull off, 3)) (k : Rn l D ad tc L xs M d lo (pc + 3) lv (st) h r h') : Rn l D ad tc L xs M d lo pc lv (.ref x :: st) h r h' :=
  rn_pure (fun p e R s m args below meth c H locs cells slots ls Q hF hd1 hd2 hl hP hS k => lv_ifnull hF.1 hF.2.1 hd k) k
theorem rn_ifnullN {off : Int} {tgt : Nat} (hd : decode M.2.1 pc = .ok (.ifnull off, 3)) (ht : (pc : Int) + off = (tgt : Int)) (k : Rn l D ad tc L xs M d lo tgt lv (st) h r h') : Rn l D ad tc L xs M d lo pc lv (.null :: st) h r h' :=
  rn_pure (fun p e R s m args below meth c H locs cells slots ls Q hF hd1 hd2 hl hP hS k => lv_ifnullN hF.1 hF.2.1 hd ht k) k
theorem rn_ifnonnull {x : Nat} {off : Int} {tgt : Nat} (hd : decode M.2.1 pc = .ok (.ifnonnull off, 3)) (ht : (pc : Int) + off = (tgt : Int)) (k : Rn l D ad tc L xs M d lo tgt lv (st) h r h') : Rn l D ad tc L xs M d lo pc lv (.ref x :: st) h r h' :=
  rn_pure (fun p e R s m args below meth c H locs cells slots ls Q hF hd1 hd2 hl hP hS k => lv_ifnonnull hF.1 hF.2.1 hd ht k) k
theorem rn_ifnonnullN {off : Int} (hd : decode M.2.1 pc = .ok (.ifnonnull off, 3)) (k : Rn l D ad tc L xs M d lo (pc + 3) lv (st) h r h') : Rn l D ad tc L xs M d lo pc lv (.null :: st) h r h' :=
  rn_pure (fun p e R s m args below meth c H locs cells slots ls Q hF hd1 hd2 hl hP hS k => lv_ifnonnullN hF.1 hF.2.1 hd k) k
theorem rn_if_eq {x : Int32} {off : Int} {tgt : Nat} (hd : decode M.2.1 pc = .ok (.ifCond .eq off, 3)) (ht : (pc : Int) + off = (tgt : Int)) (kt : x = 0 → Rn l D ad tc L xs M d lo tgt lv (st) h r h') (kf : ¬ x = 0 → Rn l D ad tc L xs M d lo (pc + 3) lv (st) h r h') : Rn l D ad tc L xs M d lo pc lv (.int x :: st) h r h' := by
  refine ⟨?_, fun p e R s m args below meth c H locs cells slots mc ms ls Q hF h1 h2 h3 h4 h5 h6 hl hP hS hQ => lv_if_eq hF.1 hF.2.1 hd ht (fun q => (kt q).2 p e R s m args below meth c H locs cells slots mc ms ls Q hF h1 h2 h3 h4 h5 h6 hl hP hS hQ) (fun q => (kf q).2 p e R s m args below meth c H locs cells slots mc ms ls Q hF h1 h2 h3 h4 h5 h6 hl hP hS hQ)⟩
  by_cases q : x = 0
  · exact (kt q).1
  · exact (kf (by first | exact q | exact fun z => q z | exact Decidable.not_not.mp q)).1
theorem rn_icmp_eq {x y : Int32} {off : Int} {tgt : Nat} (hd : decode M.2.1 pc = .ok (.if_icmp .eq off, 3)) (ht : (pc : Int) + off = (tgt : Int)) (kt : x = y → Rn l D ad tc L xs M d lo tgt lv (st) h r h') (kf : ¬ x = y → Rn l D ad tc L xs M d lo (pc + 3) lv (st) h r h') : Rn l D ad tc L xs M d lo pc lv (.int y :: .int x :: st) h r h' := by
  refine ⟨?_, fun p e R s m args below meth c H locs cells slots mc ms ls Q hF h1 h2 h3 h4 h5 h6 hl hP hS hQ => lv_icmp_eq hF.1 hF.2.1 hd ht (fun q => (kt q).2 p e R s m args below meth c H locs cells slots mc ms ls Q hF h1 h2 h3 h4 h5 h6 hl hP hS hQ) (fun q => (kf q).2 p e R s m args below meth c H locs cells slots mc ms ls Q hF h1 h2 h3 h4 h5 h6 hl hP hS hQ)⟩
  by_cases q : x = y
  · exact (kt q).1
  · exact (kf (by first | exact q | exact fun z => q z | exact Decidable.not_not.mp q)).1
theorem rn_if_ne {x : Int32} {off : Int} {tgt : Nat} (hd : decode M.2.1 pc = .ok (.ifCond .ne off, 3)) (ht : (pc : Int) + off = (tgt : Int)) (kt : ¬ x = 0 → Rn l D ad tc L xs M d lo tgt lv (st) h r h') (kf : x = 0 → Rn l D ad tc L xs M d lo (pc + 3) lv (st) h r h') : Rn l D ad tc L xs M d lo pc lv (.int x :: st) h r h' := by
  refine ⟨?_, fun p e R s m args below meth c H locs cells slots mc ms ls Q hF h1 h2 h3 h4 h5 h6 hl hP hS hQ => lv_if_ne hF.1 hF.2.1 hd ht (fun q => (kt q).2 p e R s m args below meth c H locs cells slots mc ms ls Q hF h1 h2 h3 h4 h5 h6 hl hP hS hQ) (fun q => (kf q).2 p e R s m args below meth c H locs cells slots mc ms ls Q hF h1 h2 h3 h4 h5 h6 hl hP hS hQ)⟩
  by_cases q : ¬ x = 0
  · exact (kt q).1
  · exact (kf (by first | exact q | exact fun z => q z | exact Decidable.not_not.mp q)).1
theorem rn_icmp_ne {x y : Int32} {off : Int} {tgt : Nat} (hd : decode M.2.1 pc = .ok (.if_icmp .ne off, 3)) (ht : (pc : Int) + off = (tgt : Int)) (kt : ¬ x = y → Rn l D ad tc L xs M d lo tgt lv (st) h r h') (kf : x = y → Rn l D ad tc L xs M d lo (pc + 3) lv (st) h r h') : Rn l D ad tc L xs M d lo pc lv (.int y :: .int x :: st) h r h' := by
  refine ⟨?_, fun p e R s m args below meth c H locs cells slots mc ms ls Q hF h1 h2 h3 h4 h5 h6 hl hP hS hQ => lv_icmp_ne hF.1 hF.2.1 hd ht (fun q => (kt q).2 p e R s m args below meth c H locs cells slots mc ms ls Q hF h1 h2 h3 h4 h5 h6 hl hP hS hQ) (fun q => (kf q).2 p e R s m args below meth c H locs cells slots mc ms ls Q hF h1 h2 h3 h4 h5 h6 hl hP hS hQ)⟩
  by_cases q : ¬ x = y
  · exact (kt q).1
  · exact (kf (by first | exact q | exact fun z => q z | exact Decidable.not_not.mp q)).1
theorem rn_if_lt {x : Int32} {off : Int} {tgt : Nat} (hd : decode M.2.1 pc = .ok (.ifCond .lt off, 3)) (ht : (pc : Int) + off = (tgt : Int)) (kt : x < 0 → Rn l D ad tc L xs M d lo tgt lv (st) h r h') (kf : ¬ x < 0 → Rn l D ad tc L xs M d lo (pc + 3) lv (st) h r h') : Rn l D ad tc L xs M d lo pc lv (.int x :: st) h r h' := by
  refine ⟨?_, fun p e R s m args below meth c H locs cells slots mc ms ls Q hF h1 h2 h3 h4 h5 h6 hl hP hS hQ => lv_if_lt hF.1 hF.2.1 hd ht (fun q => (kt q).2 p e R s m args below meth c H locs cells slots mc ms ls Q hF h1 h2 h3 h4 h5 h6 hl hP hS hQ) (fun q => (kf q).2 p e R s m args below meth c H locs cells slots mc ms ls Q hF h1 h2 h3 h4 h5 h6 hl hP hS hQ)⟩
  by_cases q : x < 0
  · exact (kt q).1
  · exact (kf (by first | exact q | exact fun z => q z | exact Decidable.not_not.mp q)).1
theorem rn_icmp_lt {x y : Int32} {off : Int} {tgt : Nat} (hd : decode M.2.1 pc = .ok (.if_icmp .lt off, 3)) (ht : (pc : Int) + off = (tgt : Int)) (kt : x < y → Rn l D ad tc L xs M d lo tgt lv (st) h r h') (kf : ¬ x < y → Rn l D ad tc L xs M d lo (pc + 3) lv (st) h r h') : Rn l D ad tc L xs M d lo pc lv (.int y :: .int x :: st) h r h' := by
  refine ⟨?_, fun p e R s m args below meth c H locs cells slots mc ms ls Q hF h1 h2 h3 h4 h5 h6 hl hP hS hQ => lv_icmp_lt hF.1 hF.2.1 hd ht (fun q => (kt q).2 p e R s m args below meth c H locs cells slots mc ms ls Q hF h1 h2 h3 h4 h5 h6 hl hP hS hQ) (fun q => (kf q).2 p e R s m args below meth c H locs cells slots mc ms ls Q hF h1 h2 h3 h4 h5 h6 hl hP hS hQ)⟩
  by_cases q : x < y
  · exact (kt q).1
  · exact (kf (by first | exact q | exact fun z => q z | exact Decidable.not_not.mp q)).1
theorem rn_if_ge {x : Int32} {off : Int} {tgt : Nat} (hd : decode M.2.1 pc = .ok (.ifCond .ge off, 3)) (ht : (pc : Int) + off = (tgt : Int)) (kt : 0 ≤ x → Rn l D ad tc L xs M d lo tgt lv (st) h r h') (kf : ¬ 0 ≤ x → Rn l D ad tc L xs M d lo (pc + 3) lv (st) h r h') : Rn l D ad tc L xs M d lo pc lv (.int x :: st) h r h' := by
  refine ⟨?_, fun p e R s m args below meth c H locs cells slots mc ms ls Q hF h1 h2 h3 h4 h5 h6 hl hP hS hQ => lv_if_ge hF.1 hF.2.1 hd ht (fun q => (kt q).2 p e R s m args below meth c H locs cells slots mc ms ls Q hF h1 h2 h3 h4 h5 h6 hl hP hS hQ) (fun q => (kf q).2 p e R s m args below meth c H locs cells slots mc ms ls Q hF h1 h2 h3 h4 h5 h6 hl hP hS hQ)⟩
  by_cases q : 0 ≤ x
  · exact (kt q).1
  · exact (kf (by first | exact q | exact fun z => q z | exact Decidable.not_not.mp q)).1
theorem rn_icmp_ge {x y : Int32} {off : Int} {tgt : Nat} (hd : decode M.2.1 pc = .ok (.if_icmp .ge off, 3)) (ht : (pc : Int) + off = (tgt : Int)) (kt : y ≤ x → Rn l D ad tc L xs M d lo tgt lv (st) h r h') (kf : ¬ y ≤ x → Rn l D ad tc L xs M d lo (pc + 3) lv (st) h r h') : Rn l D ad tc L xs M d lo pc lv (.int y :: .int x :: st) h r h' := by
  refine ⟨?_, fun p e R s m args below meth c H locs cells slots mc ms ls Q hF h1 h2 h3 h4 h5 h6 hl hP hS hQ => lv_icmp_ge hF.1 hF.2.1 hd ht (fun q => (kt q).2 p e R s m args below meth c H locs cells slots mc ms ls Q hF h1 h2 h3 h4 h5 h6 hl hP hS hQ) (fun q => (kf q).2 p e R s m args below meth c H locs cells slots mc ms ls Q hF h1 h2 h3 h4 h5 h6 hl hP hS hQ)⟩
  by_cases q : y ≤ x
  · exact (kt q).1
  · exact (kf (by first | exact q | exact fun z => q z | exact Decidable.not_not.mp q)).1
theorem rn_if_gt {x : Int32} {off : Int} {tgt : Nat} (hd : decode M.2.1 pc = .ok (.ifCond .gt off, 3)) (ht : (pc : Int) + off = (tgt : Int)) (kt : 0 < x → Rn l D ad tc L xs M d lo tgt lv (st) h r h') (kf : ¬ 0 < x → Rn l D ad tc L xs M d lo (pc + 3) lv (st) h r h') : Rn l D ad tc L xs M d lo pc lv (.int x :: st) h r h' := by
  refine ⟨?_, fun p e R s m args below meth c H locs cells slots mc ms ls Q hF h1 h2 h3 h4 h5 h6 hl hP hS hQ => lv_if_gt hF.1 hF.2.1 hd ht (fun q => (kt q).2 p e R s m args below meth c H locs cells slots mc ms ls Q hF h1 h2 h3 h4 h5 h6 hl hP hS hQ) (fun q => (kf q).2 p e R s m args below meth c H locs cells slots mc ms ls Q hF h1 h2 h3 h4 h5 h6 hl hP hS hQ)⟩
  by_cases q : 0 < x
  · exact (kt q).1
  · exact (kf (by first | exact q | exact fun z => q z | exact Decidable.not_not.mp q)).1
theorem rn_icmp_gt {x y : Int32} {off : Int} {tgt : Nat} (hd : decode M.2.1 pc = .ok (.if_icmp .gt off, 3)) (ht : (pc : Int) + off = (tgt : Int)) (kt : y < x → Rn l D ad tc L xs M d lo tgt lv (st) h r h') (kf : ¬ y < x → Rn l D ad tc L xs M d lo (pc + 3) lv (st) h r h') : Rn l D ad tc L xs M d lo pc lv (.int y :: .int x :: st) h r h' := by
  refine ⟨?_, fun p e R s m args below meth c H locs cells slots mc ms ls Q hF h1 h2 h3 h4 h5 h6 hl hP hS hQ => lv_icmp_gt hF.1 hF.2.1 hd ht (fun q => (kt q).2 p e R s m args below meth c H locs cells slots mc ms ls Q hF h1 h2 h3 h4 h5 h6 hl hP hS hQ) (fun q => (kf q).2 p e R s m args below meth c H locs cells slots mc ms ls Q hF h1 h2 h3 h4 h5 h6 hl hP hS hQ)⟩
  by_cases q : y < x
  · exact (kt q).1
  · exact (kf (by first | exact q | exact fun z => q z | exact Decidable.not_not.mp q)).1
theorem rn_if_le {x : Int32} {off : Int} {tgt : Nat} (hd : decode M.2.1 pc = .ok (.ifCond .le off, 3)) (ht : (pc : Int) + off = (tgt : Int)) (kt : x ≤ 0 → Rn l D ad tc L xs M d lo tgt lv (st) h r h') (kf : ¬ x ≤ 0 → Rn l D ad tc L xs M d lo (pc + 3) lv (st) h r h') : Rn l D ad tc L xs M d lo pc lv (.int x :: st) h r h' := by
  refine ⟨?_, fun p e R s m args below meth c H locs cells slots mc ms ls Q hF h1 h2 h3 h4 h5 h6 hl hP hS hQ => lv_if_le hF.1 hF.2.1 hd ht (fun q => (kt q).2 p e R s m args below meth c H locs cells slots mc ms ls Q hF h1 h2 h3 h4 h5 h6 hl hP hS hQ) (fun q => (kf q).2 p e R s m args below meth c H locs cells slots mc ms ls Q hF h1 h2 h3 h4 h5 h6 hl hP hS hQ)⟩
  by_cases q : x ≤ 0
  · exact (kt q).1
  · exact (kf (by first | exact q | exact fun z => q z | exact Decidable.not_not.mp q)).1
theorem rn_icmp_le {x y : Int32} {off : Int} {tgt : Nat} (hd : decode M.2.1 pc = .ok (.if_icmp .le off, 3)) (ht : (pc : Int) + off = (tgt : Int)) (kt : x ≤ y → Rn l D ad tc L xs M d lo tgt lv (st) h r h') (kf : ¬ x ≤ y → Rn l D ad tc L xs M d lo (pc + 3) lv (st) h r h') : Rn l D ad tc L xs M d lo pc lv (.int y :: .int x :: st) h r h' := by
  refine ⟨?_, fun p e R s m args below meth c H locs cells slots mc ms ls Q hF h1 h2 h3 h4 h5 h6 hl hP hS hQ => lv_icmp_le hF.1 hF.2.1 hd ht (fun q => (kt q).2 p e R s m args below meth c H locs cells slots mc ms ls Q hF h1 h2 h3 h4 h5 h6 hl hP hS hQ) (fun q => (kf q).2 p e R s m args below meth c H locs cells slots mc ms ls Q hF h1 h2 h3 h4 h5 h6 hl hP hS hQ)⟩
  by_cases q : x ≤ y
  · exact (kt q).1
  · exact (kf (by first | exact q | exact fun z => q z | exact Decidable.not_not.mp q)).1
theorem rn_istore_n {k0 : Fin 4} {x : Int32} {lv' : j_L} (hd : decode M.2.1 pc = .ok (.istore_n k0, 1)) (hn : (k0 : Nat) < M.2.2.1) (hl' : j_s1 (k0 : Nat) (.int x) lv = lv') (k : Rn l D ad tc L xs M d lo (pc + 1) lv' (st) h r h') : Rn l D ad tc L xs M d lo pc lv (.int x :: st) h r h' :=
  rn_loc (lv' := lv') (pc' := pc + 1) (st' := st) (fun p e R s m args below meth c H locs cells slots ls Q hF hl k => lv_istore_n (lv' := (lv'.map (fun q : Nat × Value => (q.1, j_v ad q.2)))) hF.1 hF.2.1 hd rfl hl hn (by rw [← hl']; exact j_s1_map (ad := ad) (v := .int x)) k) k
theorem rn_istore {i : Nat} {x : Int32} {lv' : j_L} (hd : decode M.2.1 pc = .ok (.istore i, 2)) (hn : i < M.2.2.1) (hl' : j_s1 i (.int x) lv = lv') (k : Rn l D ad tc L xs M d lo (pc + 2) lv' (st) h r h') : Rn l D ad tc L xs M d lo pc lv (.int x :: st) h r h' :=
  rn_loc (lv' := lv') (pc' := pc + 2) (st' := st) (fun p e R s m args below meth c H locs cells slots ls Q hF hl k => lv_istore (lv' := (lv'.map (fun q : Nat × Value => (q.1, j_v ad q.2)))) hF.1 hF.2.1 hd hl hn (by rw [← hl']; exact j_s1_map (ad := ad) (v := .int x)) k) k
theorem rn_fstore_n {k0 : Fin 4} {x : UInt32} {lv' : j_L} (hd : decode M.2.1 pc = .ok (.fstore_n k0, 1)) (hn : (k0 : Nat) < M.2.2.1) (hl' : j_s1 (k0 : Nat) (.float x) lv = lv') (k : Rn l D ad tc L xs M d lo (pc + 1) lv' (st) h r h') : Rn l D ad tc L xs M d lo pc lv (.float x :: st) h r h' :=
  rn_loc (lv' := lv') (pc' := pc + 1) (st' := st) (fun p e R s m args below meth c H locs cells slots ls Q hF hl k => lv_fstore_n (lv' := (lv'.map (fun q : Nat × Value => (q.1, j_v ad q.2)))) hF.1 hF.2.1 hd rfl hl hn (by rw [← hl']; exact j_s1_map (ad := ad) (v := .float x)) k) k
theorem rn_fstore {i : Nat} {x : UInt32} {lv' : j_L} (hd : decode M.2.1 pc = .ok (.fstore i, 2)) (hn : i < M.2.2.1) (hl' : j_s1 i (.float x) lv = lv') (k : Rn l D ad tc L xs M d lo (pc + 2) lv' (st) h r h') : Rn l D ad tc L xs M d lo pc lv (.float x :: st) h r h' :=
  rn_loc (lv' := lv') (pc' := pc + 2) (st' := st) (fun p e R s m args below meth c H locs cells slots ls Q hF hl k => lv_fstore (lv' := (lv'.map (fun q : Nat × Value => (q.1, j_v ad q.2)))) hF.1 hF.2.1 hd hl hn (by rw [← hl']; exact j_s1_map (ad := ad) (v := .float x)) k) k
theorem rn_astore_n {k0 : Fin 4} {x : Nat} {lv' : j_L} (hd : decode M.2.1 pc = .ok (.astore_n k0, 1)) (hn : (k0 : Nat) < M.2.2.1) (hl' : j_s1 (k0 : Nat) (.ref x) lv = lv') (k : Rn l D ad tc L xs M d lo (pc + 1) lv' (st) h r h') : Rn l D ad tc L xs M d lo pc lv (.ref x :: st) h r h' :=
  rn_loc (lv' := lv') (pc' := pc + 1) (st' := st) (fun p e R s m args below meth c H locs cells slots ls Q hF hl k => lv_astore_n (lv' := (lv'.map (fun q : Nat × Value => (q.1, j_v ad q.2)))) hF.1 hF.2.1 hd rfl hl hn (by rw [← hl']; exact j_s1_map (ad := ad) (v := .ref x)) k) k
theorem rn_astore {i : Nat} {x : Nat} {lv' : j_L} (hd : decode M.2.1 pc = .ok (.astore i, 2)) (hn : i < M.2.2.1) (hl' : j_s1 i (.ref x) lv = lv') (k : Rn l D ad tc L xs M d lo (pc + 2) lv' (st) h r h') : Rn l D ad tc L xs M d lo pc lv (.ref x :: st) h r h' :=
  rn_loc (lv' := lv') (pc' := pc + 2) (st' := st) (fun p e R s m args below meth c H locs cells slots ls Q hF hl k => lv_astore (lv' := (lv'.map (fun q : Nat × Value => (q.1, j_v ad q.2)))) hF.1 hF.2.1 hd hl hn (by rw [← hl']; exact j_s1_map (ad := ad) (v := .ref x)) k) k
theorem rn_lstore_n {k0 : Fin 4} {x : Int64} {lv' : j_L} (hd : decode M.2.1 pc = .ok (.lstore_n k0, 1)) (hn : (k0 : Nat) + 1 < M.2.2.1) (hl' : j_s2 (k0 : Nat) (.long x) lv = lv') (k : Rn l D ad tc L xs M d lo (pc + 1) lv' (st) h r h') : Rn l D ad tc L xs M d lo pc lv (.long x :: st) h r h' :=
  rn_loc (lv' := lv') (pc' := pc + 1) (st' := st) (fun p e R s m args below meth c H locs cells slots ls Q hF hl k => lv_lstore_n (lv' := (lv'.map (fun q : Nat × Value => (q.1, j_v ad q.2)))) hF.1 hF.2.1 hd rfl hl hn (by rw [← hl']; exact j_s2_map (ad := ad) (v := .long x)) k) k
theorem rn_lstore {i : Nat} {x : Int64} {lv' : j_L} (hd : decode M.2.1 pc = .ok (.lstore i, 2)) (hn : i + 1 < M.2.2.1) (hl' : j_s2 i (.long x) lv = lv') (k : Rn l D ad tc L xs M d lo (pc + 2) lv' (st) h r h') : Rn l D ad tc L xs M d lo pc lv (.long x :: st) h r h' :=
  rn_loc (lv' := lv') (pc' := pc + 2) (st' := st) (fun p e R s m args below meth c H locs cells slots ls Q hF hl k => lv_lstore (lv' := (lv'.map (fun q : Nat × Value => (q.1, j_v ad q.2)))) hF.1 hF.2.1 hd hl hn (by rw [← hl']; exact j_s2_map (ad := ad) (v := .long x)) k) k
theorem rn_dstore_n {k0 : Fin 4} {x : UInt64} {lv' : j_L} (hd : decode M.2.1 pc = .ok (.dstore_n k0, 1)) (hn : (k0 : Nat) + 1 < M.2.2.1) (hl' : j_s2 (k0 : Nat) (.double x) lv = lv') (k : Rn l D ad tc L xs M d lo (pc + 1) lv' (st) h r h') : Rn l D ad tc L xs M d lo pc lv (.double x :: st) h r h' :=
  rn_loc (lv' := lv') (pc' := pc + 1) (st' := st) (fun p e R s m args below meth c H locs cells slots ls Q hF hl k => lv_dstore_n (lv' := (lv'.map (fun q : Nat × Value => (q.1, j_v ad q.2)))) hF.1 hF.2.1 hd rfl hl hn (by rw [← hl']; exact j_s2_map (ad := ad) (v := .double x)) k) k
theorem rn_dstore {i : Nat} {x : UInt64} {lv' : j_L} (hd : decode M.2.1 pc = .ok (.dstore i, 2)) (hn : i + 1 < M.2.2.1) (hl' : j_s2 i (.double x) lv = lv') (k : Rn l D ad tc L xs M d lo (pc + 2) lv' (st) h r h') : Rn l D ad tc L xs M d lo pc lv (.double x :: st) h r h' :=
  rn_loc (lv' := lv') (pc' := pc + 2) (st' := st) (fun p e R s m args below meth c H locs cells slots ls Q hF hl k => lv_dstore (lv' := (lv'.map (fun q : Nat × Value => (q.1, j_v ad q.2)))) hF.1 hF.2.1 hd hl hn (by rw [← hl']; exact j_s2_map (ad := ad) (v := .double x)) k) k
theorem rn_iinc {i : Nat} {n : Int} {x v : Int32} {lv' : j_L} (hd : decode M.2.1 pc = .ok (.iinc i n, 3)) (hg : j_g lv i = some (.int x)) (hv : x + Int32.ofInt n = v) (hn : i < M.2.2.1) (hl' : j_s1 i (.int v) lv = lv') (k : Rn l D ad tc L xs M d lo (pc + 3) lv' (st) h r h') : Rn l D ad tc L xs M d lo pc lv (st) h r h' :=
  rn_loc (lv' := lv') (pc' := pc + 3) (st' := st) (fun p e R s m args below meth c H locs cells slots ls Q hF hl k => by
    obtain ⟨q, hq⟩ := List.getElem?_of_mem (j_g_mem hg)
    exact lv_iinc (lv' := (lv'.map (fun q : Nat × Value => (q.1, j_v ad q.2)))) hF.1 hF.2.1 hd hl (k := q) (by rw [List.getElem?_map, hq]; rfl) hv hn (by rw [← hl']; exact j_s1_map (ad := ad) (v := .int v)) k) k
end J2
end
section
/-! the cells of the little machine: reading, writing, making -/
theorem j_w_get {ad : Nat → Nat} {tc : Nat → ClassId} {G : List j_C} {k : Nat} {c : j_C} (h : G[k]? = some c) : (j_w ad tc G)[k]? = some (ad (k + 1), j_c ad tc c) := by
  simp [j_w, List.getElem?_mapIdx, h]
theorem j_w_in {ad : Nat → Nat} {tc : Nat → ClassId} {G : List j_C} {k : Nat} {q : Nat × va_E} (h : (j_w ad tc G)[k]? = some q) : ∃ c, G[k]? = some c ∧ q = (ad (k + 1), j_c ad tc c) := by
  simp only [j_w, List.getElem?_mapIdx] at h
  cases hc : G[k]? with
  | none => rw [hc] at h; cases h
  | some c => rw [hc] at h; exact ⟨c, rfl, (Option.some.inj h).symm⟩
theorem j_w_set {ad : Nat → Nat} {tc : Nat → ClassId} {G : List j_C} {k : Nat} {c : j_C} : (j_w ad tc G).set k (ad (k + 1), j_c ad tc c) = j_w ad tc (G.set k c) := by
  apply List.ext_getElem?
  intro i
  simp only [j_w, List.getElem?_set, List.getElem?_mapIdx, List.length_mapIdx]
  by_cases e : k = i
  · subst e
    by_cases hk : k < G.length
    · simp [hk]
    · simp [hk]
  · simp [e]
theorem j_w_app {ad : Nat → Nat} {tc : Nat → ClassId} {G : List j_C} {c : j_C} : j_w ad tc (G ++ [c]) = j_w ad tc G ++ [(ad (G.length + 1), j_c ad tc c)] := by
  simp [j_w, List.mapIdx_append]
theorem j_D {ad : Nat → Nat} {tc : Nat → ClassId} {G : List j_C} (hinj : ∀ i j, ad i = ad j → i = j) : va_D (j_A ad) (j_w ad tc G) := by
  refine ⟨fun i j p q hp hq e => ?_, fun k q hq => ?_⟩
  · obtain ⟨_, -, rfl⟩ := j_w_in hp
    obtain ⟨_, -, rfl⟩ := j_w_in hq
    have := hinj _ _ e
    omega
  · obtain ⟨_, -, rfl⟩ := j_w_in hq
    exact ⟨k, rfl⟩
theorem j_nA {ad : Nat → Nat} (hinj : ∀ i j, ad i = ad j → i = j) : ¬ j_A ad (ad 0) := fun ⟨k, hk⟩ => by
  have := hinj _ _ hk
  omega
theorem j_ty_at {tc : Nat → ClassId} {t : Nat} {ty : FieldType} (h : j_ty[t]? = some ty) : (j_tys tc)[t]? = some (tc t, ty) := by
  simp [j_tys, List.getElem?_mapIdx, h]
theorem va_P.sz {D : va_G} {ad : Nat → Nat} {tc : Nat → ClassId} {H H' : Heap} {G G' : List j_C} (hP : va_P D j_cl (j_w ad tc G) H) {k : Nat} {c : j_C} (h : G[k]? = some c) : ad (k + 1) < H.size := (hP k _ (j_w_get h)).lt
section J3
variable {l : Launch} {D : va_G} {ad : Nat → Nat} {tc : Nat → ClassId} {L : Nat} {xs : Nat → Int32} {M : j_M} {d lo pc : Nat} {lv : j_L} {st : List Value} {h h' : j_H} {r : Option Value}
/-- what the tables say of a field's use: the class's own entry idx is the field k of the class ci -/
def j_fo (own : String) (idx ci k : Nat) : Prop := ∃ (C : String) (T : u_T) (N : Nat), j_cl[ci]? = some (C, T, N) ∧ k < N ∧ (∀ w ∈ u_ws C T N, w ∈ j_all) ∧ Cond.fieldLink own idx C (T k).2.1 (T k).2.2.1 ∈ j_all ∧ (T k).1 = C
theorem rn_getfield {idx ci k a : Nat} {fs : List Value} {v : Value} (hd : decode M.2.1 pc = .ok (.getfield idx, 3)) (hf : j_fo M.1.cls idx ci k) (he : h.1[a]? = some (.inr (ci, fs))) (hv : fs[k]? = some v)
    (kk : Rn l D ad tc L xs M d lo (pc + 3) lv (v :: st) h r h') : Rn l D ad tc L xs M d lo pc lv (.ref (a + 1) :: st) h r h' := by
  refine rn_pure (fun p e R s m args below meth c H locs cells slots ls Q hF hd1 hd2 hl hP hS kw => ?_) kk
  obtain ⟨C, T, N, f1, f2, f3, f4, f5⟩ := hf
  obtain ⟨hx, hb, hml, hown, hts, hkw, hK, hX, hbl, hn, hinj⟩ := hF
  exact va_get (D := D) (cl := j_cl) (tys := j_tys tc) (ws := j_w ad tc h.1) (ci := ci) (fs := fs.map (j_v ad)) hx hb hts f3 hown hK hP.1 a (j_w_get he) f1 k f2 (hts _ f4) (fun x hx2 => by rw [f5] at hx2; exact hx2) (by rw [List.getElem?_map, hv]; rfl) hd kw
/-- .. and to write it -/
def j_fp (own : String) (idx ci k : Nat) (ty : FieldType) : Prop := ∃ (C : String) (T : u_T) (N : Nat) (ty0 : Nat → FieldType), j_cl[ci]? = some (C, T, N) ∧ k < N ∧ (∀ w ∈ u_ws C T N, w ∈ j_all) ∧ Cond.fieldLink own idx C (T k).2.1 (T k).2.2.1 ∈ j_all ∧ (T k).1 = C ∧ (∀ k, k < N → parseFieldDescriptor (T k).2.2.1 = some (ty0 k)) ∧ (∀ a, a < N → ∀ b, b < N → a ≠ b → (T a).2.1 ≠ (T b).2.1) ∧ ty0 k = ty ∧ ((T k).2.2.2 = false ∨ (T k).2.2.2 = true ∧ C = own)
theorem rn_putfield {idx ci k a : Nat} {fs : List Value} {v : Value} {ty : FieldType} (hd : decode M.2.1 pc = .ok (.putfield idx, 3)) (hf : j_fp M.1.cls idx ci k ty) (he : h.1[a]? = some (.inr (ci, fs))) (hk : k < fs.length) (hn : ∀ ad, narrow ty (j_v ad v) = j_v ad v ∧ fits ty (j_v ad v) = true) (hi : M.1.name = "<init>" ∨ ∃ C T N, j_cl[ci]? = some (C, T, N) ∧ (T k).2.2.2 = false)
    (kk : Rn l D ad tc L xs M d lo (pc + 3) lv st (h.1.set a (.inr (ci, fs.set k v)), h.2) r h') : Rn l D ad tc L xs M d lo pc lv (v :: .ref (a + 1) :: st) h r h' := by
  refine rn_cell (h2 := (h.1.set a (.inr (ci, fs.set k v)), h.2)) (by simp) rfl (fun p e R s m args below meth c H locs cells slots ls Q hF hl hP hS kw => ?_) kk
  obtain ⟨C, T, N, ty0, f1, f2, f3, f4, f5, f6, f7, f8, f9⟩ := hf
  obtain ⟨hx, hb, hml, hown, hts, hkw, hK, hX, hbl, hnm, hinj⟩ := hF
  have hlen : k < (fs.map (j_v ad)).length := by rw [List.length_map]; exact hk
  have go : ∀ (H1 : Heap) (locs1 : List Loc), va_P D j_cl ((j_w ad tc h.1).set a (ad (a + 1), .inr (ci, (fs.map (j_v ad)).set k (j_v ad v)))) H1 → va_D (j_A ad) ((j_w ad tc h.1).set a (ad (a + 1), .inr (ci, (fs.map (j_v ad)).set k (j_v ad v)))) → va_S (j_A ad) s.heap H1 locs1 → H1.size = H.size → W p l e R s m args below meth c H1 locs1 cells slots Q (F0 m (pc + 3) ls (st.map (j_v ad))) := by
    intro H1 locs1 hP1 _ hS1 hz
    refine kw H1 locs1 ⟨?_, fun j => ?_⟩ hS1
    · have e := j_w_set (ad := ad) (tc := tc) (G := h.1) (k := a) (c := .inr (ci, fs.set k v))
      rw [show j_c ad tc (.inr (ci, fs.set k v)) = .inr (ci, (fs.map (j_v ad)).set k (j_v ad v)) by show Sum.inr (ci, (fs.set k v).map (j_v ad)) = _; rw [List.map_set]] at e
      rw [← e]
      exact hP1
    · rw [List.length_set, hz]
      exact hP.2 j
  have hap := va_apart (own := M.1.cls) hts f3 ty0 f6 f7 hK f1
  obtain ⟨r0, h1, cell, q1, q2, q3, q4⟩ := hP.1 a _ (j_w_get he)
  have hr : r0 = (C, T, N) := Option.some.inj (h1.symm.trans f1)
  subst hr
  obtain ⟨hSl, hfc, kC, hkC, hkind⟩ := hK.1 ci _ f1
  obtain ⟨cf, kf, fi, f, hi2, hsl⟩ := hSl k f2
  have hlay := hts _ (f3 _ (u_in_lay f2))
  have hst := (u_facts hfc hkC (u_lays hts f3 f2) hi2).1
  have hpd := f6 k f2
  rw [f8] at hpd
  rcases hfl : (T k).2.2.2 with _ | _
  · unfold u_lay at hlay
    rw [if_neg (by rw [hfl]; decide)] at hlay
    have h6 := u_store hfc hkC hkind hlay hi2 hpd (hn ad).1 (hn ad).2
    refine W.putK hx hb (f := f) ⟨hown, hts _ f4, ⟨_, _, _, (by rw [f5] at hi2; exact hi2)⟩, hst⟩ (by rw [q2]; exact h6) q1 q3 (by rw [hsl]; exact k2_hasslot (q4 k f2)) rfl rfl hd fun H' e1 e2 e3 => ?_
    rw [hsl] at e1 ⊢
    exact go H' _ (hP.1.set (j_D hinj) (j_w_get he) ⟨_, f1, t_OB.to (V := updV (vp_V (fs.map (j_v ad))) k (j_v ad v)) ⟨_, e1, q2, q3, t_set q4 hap f2 _⟩ (fun j _ => vp_updV_set hlen _ j)⟩ e3) ((j_D hinj).set (j_w_get he)) (hS.put e2 e3 ⟨a, rfl⟩) e2
  · have hini : M.1.name = "<init>" := by
      rcases hi with hi | ⟨C', T', N', g1, g2⟩
      · exact hi
      · cases g1.symm.trans f1
        rw [hfl] at g2
        cases g2
    have hco : C = M.1.cls := by
      rcases f9 with f9 | f9
      · rw [hfl] at f9; cases f9
      · exact f9.2
    unfold u_lay at hlay
    rw [if_pos hfl] at hlay
    have hcf : m.cls = cf := by
      obtain ⟨_, _, c', _, _, _, -, -, hf', -, -, -, hown2, -⟩ := Cond.laysFinal_spec hlay
      have e1 : c' = cf := by have := hi2.symm.trans hf'; simp at this; exact this.1.symm
      rw [f5, hco] at hown2
      rw [← e1]; exact Option.some.inj (hown.symm.trans hown2)
    have h6 := u_fits hfc hkC hkind (Or.inr hlay) hi2 hpd (hn ad).1 (hn ad).2
    refine W.putFinK hx hb hown (hts _ f4) (by rw [f5] at hi2; exact hi2) hst hcf (hnm.trans hini) (by rw [q2]; exact h6) q1 q3 (by rw [hsl]; exact k2_hasslot (q4 k f2)) rfl rfl hd fun H' e1 e2 e3 => ?_
    rw [hsl] at e1 ⊢
    exact go H' _ (hP.1.set (j_D hinj) (j_w_get he) ⟨_, f1, t_OB.to (V := updV (vp_V (fs.map (j_v ad))) k (j_v ad v)) ⟨_, e1, q2, q3, t_set q4 hap f2 _⟩ (fun j _ => vp_updV_set hlen _ j)⟩ e3) ((j_D hinj).set (j_w_get he)) (hS.put e2 e3 ⟨a, rfl⟩) e2
end J3
section J4
variable {l : Launch} {D : va_G} {ad : Nat → Nat} {tc : Nat → ClassId} {L : Nat} {xs : Nat → Int32} {M : j_M} {d lo pc : Nat} {lv : j_L} {st : List Value} {h h' : j_H} {r : Option Value}
theorem rn_iaload {a t n : Nat} {f : Nat → Int32} {i : Int32} (hd : decode M.2.1 pc = .ok (.iaload, 1)) (he : h.1[a]? = some (.inl (t, n, .inl f))) (ht : j_ty[t]? = some .int) (hin : vp_in i n)
    (kk : Rn l D ad tc L xs M d lo (pc + 1) lv (.int (f i.toNatClampNeg) :: st) h r h') : Rn l D ad tc L xs M d lo pc lv (.int i :: .ref (a + 1) :: st) h r h' :=
  rn_pure (fun p e R s m args below meth c H locs cells slots ls Q hF hd1 hd2 hl hP hS kw => va_iald hF.1 hF.2.1 hF.2.2.2.2.2.2.1 hP.1 a t (j_w_get he) (j_ty_at ht) hin hd kw) kk
theorem rn_faload {a t n : Nat} {f : Nat → UInt32} {i : Int32} (hd : decode M.2.1 pc = .ok (.faload, 1)) (he : h.1[a]? = some (.inl (t, n, .inr (.inr (.inl f))))) (ht : j_ty[t]? = some .float) (hin : vp_in i n)
    (kk : Rn l D ad tc L xs M d lo (pc + 1) lv (.float (f i.toNatClampNeg) :: st) h r h') : Rn l D ad tc L xs M d lo pc lv (.int i :: .ref (a + 1) :: st) h r h' :=
  rn_pure (fun p e R s m args below meth c H locs cells slots ls Q hF hd1 hd2 hl hP hS kw => va_fald hF.1 hF.2.1 hF.2.2.2.2.2.2.1 hP.1 a t (j_w_get he) (j_ty_at ht) hin hd kw) kk
theorem rn_daload {a t n : Nat} {f : Nat → UInt64} {i : Int32} (hd : decode M.2.1 pc = .ok (.daload, 1)) (he : h.1[a]? = some (.inl (t, n, .inr (.inr (.inr (.inl f)))))) (ht : j_ty[t]? = some .double) (hin : vp_in i n)
    (kk : Rn l D ad tc L xs M d lo (pc + 1) lv (.double (f i.toNatClampNeg) :: st) h r h') : Rn l D ad tc L xs M d lo pc lv (.int i :: .ref (a + 1) :: st) h r h' :=
  rn_pure (fun p e R s m args below meth c H locs cells slots ls Q hF hd1 hd2 hl hP hS kw => va_dald hF.1 hF.2.1 hF.2.2.2.2.2.2.1 hP.1 a t (j_w_get he) (j_ty_at ht) hin hd kw) kk
theorem rn_laload {a t n : Nat} {f : Nat → Int64} {i : Int32} (hd : decode M.2.1 pc = .ok (.laload, 1)) (he : h.1[a]? = some (.inl (t, n, .inr (.inl f)))) (ht : j_ty[t]? = some .long) (hin : vp_in i n)
    (kk : Rn l D ad tc L xs M d lo (pc + 1) lv (.long (f i.toNatClampNeg) :: st) h r h') : Rn l D ad tc L xs M d lo pc lv (.int i :: .ref (a + 1) :: st) h r h' :=
  rn_pure (fun p e R s m args below meth c H locs cells slots ls Q hF hd1 hd2 hl hP hS kw => va_lald hF.1 hF.2.1 hF.2.2.2.2.2.2.1 hP.1 a t (j_w_get he) (j_ty_at ht) hin hd kw) kk
theorem rn_aaload {a t n b : Nat} {f : Nat → Option Nat} {C : String} {i : Int32} (hd : decode M.2.1 pc = .ok (.aaload, 1)) (he : h.1[a]? = some (.inl (t, n, .inr (.inr (.inr (.inr f)))))) (ht : j_ty[t]? = some (.object C)) (hin : vp_in i n) (hv : f i.toNatClampNeg = some b)
    (kk : Rn l D ad tc L xs M d lo (pc + 1) lv (.ref b :: st) h r h') : Rn l D ad tc L xs M d lo pc lv (.int i :: .ref (a + 1) :: st) h r h' :=
  rn_pure (fun p e R s m args below meth c H locs cells slots ls Q hF hd1 hd2 hl hP hS kw => va_aldq (f := j_f ad f) hF.1 hF.2.1 hF.2.2.2.2.2.2.1 hP.1 a t (j_w_get he) (j_ty_at ht) hin hd (by
    rw [show va_rf (j_f ad f i.toNatClampNeg) = .ref (ad b) by simp [j_f, hv, va_rf]]
    exact kw)) kk
theorem rn_alen {a t : Nat} {x : vp_A} {v : Int32} {ty : FieldType} (hd : decode M.2.1 pc = .ok (.arraylength, 1)) (he : h.1[a]? = some (.inl (t, x))) (ht : j_ty[t]? = some ty) (hv : Int32.ofNat x.1 = v)
    (kk : Rn l D ad tc L xs M d lo (pc + 1) lv (.int v :: st) h r h') : Rn l D ad tc L xs M d lo pc lv (.ref (a + 1) :: st) h r h' :=
  rn_pure (fun p e R s m args below meth c H locs cells slots ls Q hF hd1 hd2 hl hP hS kw => by
    obtain ⟨n, f | f | f | f | f⟩ := x
    · exact va_alen hF.1 hF.2.1 hF.2.2.2.2.2.2.1 hP.1 a t (x := (n, .inl f)) (j_w_get he) (j_ty_at ht) hv hd kw
    · exact va_alen hF.1 hF.2.1 hF.2.2.2.2.2.2.1 hP.1 a t (x := (n, .inr (.inl f))) (j_w_get he) (j_ty_at ht) hv hd kw
    · exact va_alen hF.1 hF.2.1 hF.2.2.2.2.2.2.1 hP.1 a t (x := (n, .inr (.inr (.inl f)))) (j_w_get he) (j_ty_at ht) hv hd kw
    · exact va_alen hF.1 hF.2.1 hF.2.2.2.2.2.2.1 hP.1 a t (x := (n, .inr (.inr (.inr (.inl f))))) (j_w_get he) (j_ty_at ht) hv hd kw
    · exact va_alen hF.1 hF.2.1 hF.2.2.2.2.2.2.1 hP.1 a t (x := (n, .inr (.inr (.inr (.inr (j_f ad f)))))) (j_w_get he) (j_ty_at ht) hv hd kw) kk
/-- the script is the reference 0 -/
theorem rn_sld {i : Int32} (hd : decode M.2.1 pc = .ok (.iaload, 1)) (hin : vp_in i L) (kk : Rn l D ad tc L xs M d lo (pc + 1) lv (.int (xs i.toNatClampNeg) :: st) h r h') : Rn l D ad tc L xs M d lo pc lv (.int i :: .ref 0 :: st) h r h' :=
  rn_pure (fun p e R s m args below meth c H locs cells slots ls Q hF hd1 hd2 hl hP hS kw => va_sld hF.1 hF.2.1 hF.2.2.2.2.2.2.2.1 hF.2.2.2.2.2.2.2.2.1 (j_nA hF.2.2.2.2.2.2.2.2.2.2) hS hin hd kw) kk
theorem rn_slen (hd : decode M.2.1 pc = .ok (.arraylength, 1)) (kk : Rn l D ad tc L xs M d lo (pc + 1) lv (.int (Int32.ofNat L) :: st) h r h') : Rn l D ad tc L xs M d lo pc lv (.ref 0 :: st) h r h' :=
  rn_pure (fun p e R s m args below meth c H locs cells slots ls Q hF hd1 hd2 hl hP hS kw => va_slen hF.1 hF.2.1 hF.2.2.2.2.2.2.2.1 hF.2.2.2.2.2.2.2.2.1 (j_nA hF.2.2.2.2.2.2.2.2.2.2) hS hd kw) kk
theorem rn_iastore {a t n : Nat} {f : Nat → Int32} {i : Int32} {x : Int32} (hd : decode M.2.1 pc = .ok (.iastore, 1)) (he : h.1[a]? = some (.inl (t, n, .inl f))) (ht : j_ty[t]? = some .int) (hin : vp_in i n)
    (kk : Rn l D ad tc L xs M d lo (pc + 1) lv st (h.1.set a (.inl (t, n, .inl (upd f i.toNatClampNeg x))), h.2) r h') : Rn l D ad tc L xs M d lo pc lv (.int x :: .int i :: .ref (a + 1) :: st) h r h' :=
  rn_cell (h2 := (h.1.set a (.inl (t, n, .inl (upd f i.toNatClampNeg x))), h.2)) (by simp) rfl (fun p e R s m args below meth c H locs cells slots ls Q hF hl hP hS kw => by
    refine W.iast hF.1 hF.2.1 (hP.1 a _ (j_w_get he)) ((hF.2.2.2.2.2.2.1.2 t _ (j_ty_at ht)).1 n (fun j => .int (f j))) (fun q => by cases q) (by show ¬ (i < 0 ∨ (arrV _ _ _).slots.size ≤ _); rw [arrV_size]; exact hin) rfl rfl hd fun H1 e1 z oq => ?_
    refine kw H1 _ ⟨?_, fun j => by rw [List.length_set, z]; exact hP.2 j⟩ (hS.put z oq ⟨a, rfl⟩)
    have hset := hP.1.set (j_D hF.2.2.2.2.2.2.2.2.2.2) (j_w_get he) (e := .inl (tc t, n, .inl (upd f i.toNatClampNeg x))) (H1 := H1) ?_ oq
    · have e := j_w_set (ad := ad) (tc := tc) (G := h.1) (k := a) (c := .inl (t, n, .inl (upd f i.toNatClampNeg x)))
      rw [← e]
      exact hset
    · show H1[ad (a + 1)]? = some (vp_cell _ _)
      rw [e1, vp_cell_i]
      show some ((vp_cell (tc t) (n, .inl f)).setSlot _ _) = _
      rw [vp_cell_i, arrV_store]
      refine (congrArg (fun g => some (arrV (tc t) n g)) (funext fun q => ?_) : some (arrV (tc t) n (updV (fun j => .int (f j)) i.toNatClampNeg (.int x))) = some (arrV (tc t) n (fun j => .int ((upd f i.toNatClampNeg x) j))))
      by_cases hq : q = i.toNatClampNeg
      · subst hq
        simp [updV, upd]
      · simp [updV, upd, hq]) kk
theorem rn_lastore {a t n : Nat} {f : Nat → Int64} {i : Int32} {x : Int64} (hd : decode M.2.1 pc = .ok (.lastore, 1)) (he : h.1[a]? = some (.inl (t, n, .inr (.inl f)))) (ht : j_ty[t]? = some .long) (hin : vp_in i n)
    (kk : Rn l D ad tc L xs M d lo (pc + 1) lv st (h.1.set a (.inl (t, n, .inr (.inl (vp_updL f i.toNatClampNeg x)))), h.2) r h') : Rn l D ad tc L xs M d lo pc lv (.long x :: .int i :: .ref (a + 1) :: st) h r h' :=
  rn_cell (h2 := (h.1.set a (.inl (t, n, .inr (.inl (vp_updL f i.toNatClampNeg x)))), h.2)) (by simp) rfl (fun p e R s m args below meth c H locs cells slots ls Q hF hl hP hS kw => by
    refine W.last hF.1 hF.2.1 (hP.1 a _ (j_w_get he)) ((hF.2.2.2.2.2.2.1.2 t _ (j_ty_at ht)).1 n (fun j => .long (f j))) (fun q => by cases q) (by show ¬ (i < 0 ∨ (arrV _ _ _).slots.size ≤ _); rw [arrV_size]; exact hin) rfl rfl hd fun H1 e1 z oq => ?_
    refine kw H1 _ ⟨?_, fun j => by rw [List.length_set, z]; exact hP.2 j⟩ (hS.put z oq ⟨a, rfl⟩)
    have hset := hP.1.set (j_D hF.2.2.2.2.2.2.2.2.2.2) (j_w_get he) (e := .inl (tc t, n, .inr (.inl (vp_updL f i.toNatClampNeg x)))) (H1 := H1) ?_ oq
    · have e := j_w_set (ad := ad) (tc := tc) (G := h.1) (k := a) (c := .inl (t, n, .inr (.inl (vp_updL f i.toNatClampNeg x))))
      rw [← e]
      exact hset
    · show H1[ad (a + 1)]? = some (vp_cell _ _)
      rw [e1, vp_cell_l]
      show some ((vp_cell (tc t) (n, .inr (.inl f))).setSlot _ _) = _
      rw [vp_cell_l, arrV_store]
      refine (congrArg (fun g => some (arrV (tc t) n g)) (funext fun q => ?_) : some (arrV (tc t) n (updV (fun j => .long (f j)) i.toNatClampNeg (.long x))) = some (arrV (tc t) n (fun j => .long ((vp_updL f i.toNatClampNeg x) j))))
      by_cases hq : q = i.toNatClampNeg
      · subst hq
        simp [updV, vp_updL]
      · simp [updV, vp_updL, hq]) kk
theorem rn_fastore {a t n : Nat} {f : Nat → UInt32} {i : Int32} {x : UInt32} (hd : decode M.2.1 pc = .ok (.fastore, 1)) (he : h.1[a]? = some (.inl (t, n, .inr (.inr (.inl f))))) (ht : j_ty[t]? = some .float) (hin : vp_in i n)
    (kk : Rn l D ad tc L xs M d lo (pc + 1) lv st (h.1.set a (.inl (t, n, .inr (.inr (.inl (vf_upd f i.toNatClampNeg x))))), h.2) r h') : Rn l D ad tc L xs M d lo pc lv (.float x :: .int i :: .ref (a + 1) :: st) h r h' :=
  rn_cell (h2 := (h.1.set a (.inl (t, n, .inr (.inr (.inl (vf_upd f i.toNatClampNeg x))))), h.2)) (by simp) rfl (fun p e R s m args below meth c H locs cells slots ls Q hF hl hP hS kw => by
    refine W.fast hF.1 hF.2.1 (hP.1 a _ (j_w_get he)) ((hF.2.2.2.2.2.2.1.2 t _ (j_ty_at ht)).1 n (fun j => .float (f j))) (fun q => by cases q) (by show ¬ (i < 0 ∨ (arrV _ _ _).slots.size ≤ _); rw [arrV_size]; exact hin) rfl rfl hd fun H1 e1 z oq => ?_
    refine kw H1 _ ⟨?_, fun j => by rw [List.length_set, z]; exact hP.2 j⟩ (hS.put z oq ⟨a, rfl⟩)
    have hset := hP.1.set (j_D hF.2.2.2.2.2.2.2.2.2.2) (j_w_get he) (e := .inl (tc t, n, .inr (.inr (.inl (vf_upd f i.toNatClampNeg x))))) (H1 := H1) ?_ oq
    · have e := j_w_set (ad := ad) (tc := tc) (G := h.1) (k := a) (c := .inl (t, n, .inr (.inr (.inl (vf_upd f i.toNatClampNeg x)))))
      rw [← e]
      exact hset
    · show H1[ad (a + 1)]? = some (vp_cell _ _)
      rw [e1, vp_cell_f]
      show some ((vp_cell (tc t) (n, .inr (.inr (.inl f)))).setSlot _ _) = _
      rw [vp_cell_f, arrV_store]
      refine (congrArg (fun g => some (arrV (tc t) n g)) (funext fun q => ?_) : some (arrV (tc t) n (updV (fun j => .float (f j)) i.toNatClampNeg (.float x))) = some (arrV (tc t) n (fun j => .float ((vf_upd f i.toNatClampNeg x) j))))
      by_cases hq : q = i.toNatClampNeg
      · subst hq
        simp [updV, vf_upd]
      · simp [updV, vf_upd, hq]) kk
theorem rn_dastore {a t n : Nat} {f : Nat → UInt64} {i : Int32} {x : UInt64} (hd : decode M.2.1 pc = .ok (.dastore, 1)) (he : h.1[a]? = some (.inl (t, n, .inr (.inr (.inr (.inl f)))))) (ht : j_ty[t]? = some .double) (hin : vp_in i n)
    (kk : Rn l D ad tc L xs M d lo (pc + 1) lv st (h.1.set a (.inl (t, n, .inr (.inr (.inr (.inl (vf_upd f i.toNatClampNeg x)))))), h.2) r h') : Rn l D ad tc L xs M d lo pc lv (.double x :: .int i :: .ref (a + 1) :: st) h r h' :=
  rn_cell (h2 := (h.1.set a (.inl (t, n, .inr (.inr (.inr (.inl (vf_upd f i.toNatClampNeg x)))))), h.2)) (by simp) rfl (fun p e R s m args below meth c H locs cells slots ls Q hF hl hP hS kw => by
    refine W.dast hF.1 hF.2.1 (hP.1 a _ (j_w_get he)) ((hF.2.2.2.2.2.2.1.2 t _ (j_ty_at ht)).1 n (fun j => .double (f j))) (fun q => by cases q) (by show ¬ (i < 0 ∨ (arrV _ _ _).slots.size ≤ _); rw [arrV_size]; exact hin) rfl rfl hd fun H1 e1 z oq => ?_
    refine kw H1 _ ⟨?_, fun j => by rw [List.length_set, z]; exact hP.2 j⟩ (hS.put z oq ⟨a, rfl⟩)
    have hset := hP.1.set (j_D hF.2.2.2.2.2.2.2.2.2.2) (j_w_get he) (e := .inl (tc t, n, .inr (.inr (.inr (.inl (vf_upd f i.toNatClampNeg x)))))) (H1 := H1) ?_ oq
    · have e := j_w_set (ad := ad) (tc := tc) (G := h.1) (k := a) (c := .inl (t, n, .inr (.inr (.inr (.inl (vf_upd f i.toNatClampNeg x))))))
      rw [← e]
      exact hset
    · show H1[ad (a + 1)]? = some (vp_cell _ _)
      rw [e1, vp_cell_d]
      show some ((vp_cell (tc t) (n, .inr (.inr (.inr (.inl f))))).setSlot _ _) = _
      rw [vp_cell_d, arrV_store]
      refine (congrArg (fun g => some (arrV (tc t) n g)) (funext fun q => ?_) : some (arrV (tc t) n (updV (fun j => .double (f j)) i.toNatClampNeg (.double x))) = some (arrV (tc t) n (fun j => .double ((vf_upd f i.toNatClampNeg x) j))))
      by_cases hq : q = i.toNatClampNeg
      · subst hq
        simp [updV, vf_upd]
      · simp [updV, vf_upd, hq]) kk
end J4
end
section
/-! making cells; contracts and calls of the little machine -/
section J5
variable {l : Launch} {D : va_G} {ad : Nat → Nat} {tc : Nat → ClassId} {L : Nat} {xs : Nat → Int32} {M : j_M} {d lo pc : Nat} {lv : j_L} {st : List Value} {h h' : j_H} {r : Option Value}
theorem j_push {D : va_G} {ad : Nat → Nat} {tc : Nat → ClassId} {H H1 : Heap} {h : j_H} {x : j_C} {n : Nat} (hP : j_P D ad tc H h) (z : H1.size = H.size + 1) (o : ∀ q : Nat, q < H.size → H1[q]? = H[q]?) (hx : va_at D j_cl (H.size, j_c ad tc x) H1) : j_P D ad tc H1 (h.1 ++ [x], h.2 + n) := by
  have h0 := hP.2 0
  refine ⟨?_, fun k => ?_⟩
  · show va_P D j_cl (j_w ad tc (h.1 ++ [x])) H1
    rw [j_w_app]
    refine (hP.1.kept fun k q hq => o q.1 (hP.1 k q hq).lt).app fun k q hq => ?_
    have hz : k < 1 := (List.getElem?_eq_some_iff.mp hq).1
    rw [show k = 0 by omega] at hq
    cases hq
    rw [show ad (h.1.length + 1) = H.size from h0]
    exact hx
  · have := hP.2 (k + 1)
    simp only [List.length_append, List.length_cons, List.length_nil]
    rw [show h.1.length + (0 + 1) + 1 + k = h.1.length + 1 + (k + 1) by omega, this, z]
    omega
/-- the class ci, made by the own entry idx, born with the fields fs -/
def j_no (own : String) (idx ci : Nat) (fs : List Value) : Prop := ∃ (C : String) (T : u_T) (N : Nat) (ty : Nat → FieldType), j_cl[ci]? = some (C, T, N) ∧ (∀ w ∈ u_ws C T N, w ∈ j_all) ∧ (∀ k, k < N → parseFieldDescriptor (T k).2.2.1 = some (ty k)) ∧ Cond.classLink own idx C ∈ j_all ∧ Cond.instantiable C N ∈ j_all ∧ Cond.initialized C ∈ j_all ∧ (∀ j, j < N → defaultValue (ty j) = vp_V fs j) ∧ (∀ ad, fs.map (j_v ad) = fs) ∧ fs.length = N
theorem rn_new {idx ci : Nat} {fs : List Value} (hd : decode M.2.1 pc = .ok (.new idx, 3)) (hn : j_no M.1.cls idx ci fs)
    (kk : Rn l D ad tc L xs M d lo (pc + 3) lv (.ref (h.1.length + 1) :: st) (h.1 ++ [.inr (ci, fs)], h.2 + fs.length) r h') : Rn l D ad tc L xs M d lo pc lv st h r h' := by
  refine rn_make (x := .inr (ci, fs)) (n := fs.length) (fun p e R s m args below meth c H locs cells slots ls Q hF hc hs hP hS kw => ?_) kk
  obtain ⟨C, T, N, ty, f1, f2, f3, f4, f5, f6, f7, f8, f9⟩ := hn
  obtain ⟨hx, hb, hml, hown, hts, hkw, hK, hX, hbl, hnm, hinj⟩ := hF
  have hKn := hK.1 ci _ f1
  rw [f9] at hs kw
  refine W.newcK hx hb hown (hts _ f4) (hts _ f5) (hts _ f6) rfl hd hc hs hKn.2.1 rfl fun H1 kC hkC e1 z1 o1 => ?_
  have h0 := hP.2 0
  have hkw := kw H1 (by
    have := j_push (n := fs.length) hP z1 o1 (x := .inr (ci, fs)) ⟨_, f1, by
      show t_OB H.size _ _ _ H1 (vp_V (fs.map (j_v ad)))
      rw [f8]
      exact (u_born ty hts f2 hKn hkC e1 f3).to f7⟩
    rw [f9] at this
    exact this) ⟨Nat.le_trans hS.1 (by omega), fun q h1 h2 => (o1 q (Nat.lt_of_lt_of_le h1 hS.1)).trans (hS.2.1 q h1 h2), hS.2.2⟩
  show W p l e R s m args below meth c H1 locs (cells + 1) (slots + N) Q (F0 m (pc + 3) ls (.ref H.size :: st.map (j_v ad)))
  rw [← show ad (h.1.length + 1) = H.size from h0]
  exact hkw
theorem j_tc {D : va_G} {tc : Nat → ClassId} {s : State} {t : Nat} {cA : ClassId} {at' : ArrayType} (hK : va_K D j_cl (j_tys tc) s) (ht : j_ty[t]? = some (newarray.typeOf at')) (h : s.vm.findClass ("[" ++ (newarray.typeOf at').toString) = some cA) : cA = tc t := by
  have h2 := (hK.2 t _ (j_ty_at ht)).2
  cases at' <;> exact Option.some.inj (h.symm.trans h2)
theorem rn_newarray {atype : ArrayType} {t N : Nat} {n : Int32} {f : vp_A} (hd : decode M.2.1 pc = .ok (.newarray atype, 2)) (ht : j_ty[t]? = some (newarray.typeOf atype)) (hw : Cond.arrayClass (newarray.typeOf atype) ∈ j_all) (hn : ¬ n < 0) (hN : n.toNatClampNeg = N) (hby : N * componentBytes (newarray.typeOf atype) ≤ 536870912)
    (hf : ∀ cA : ClassId, vp_cell cA f = arrV cA N (fun _ => defaultValue (newarray.typeOf atype))) (hj : ∀ ad tc, j_c ad tc (.inl (t, f)) = .inl (tc t, f))
    (kk : Rn l D ad tc L xs M d lo (pc + 2) lv (.ref (h.1.length + 1) :: st) (h.1 ++ [.inl (t, f)], h.2 + N) r h') : Rn l D ad tc L xs M d lo pc lv (.int n :: st) h r h' := by
  refine rn_make (x := .inl (t, f)) (n := N) (fun p e R s m args below meth c H locs cells slots ls Q hF hc hs hP hS kw => ?_) kk
  obtain ⟨hx, hb, hml, hown, hts, hkw, hK, hX, hbl, hnm, hinj⟩ := hF
  refine va_newaK hx hb (hts _ hw) rfl hd rfl hn hN hby hc hs rfl fun H1 cA e1 z1 o1 hAr hNm => ?_
  have h0 := hP.2 0
  have hcA := j_tc hK ht hNm
  subst hcA
  have hkw := kw H1 (j_push (n := N) hP z1 o1 (x := .inl (t, f)) (by
      rw [hj]
      show H1[H.size]? = some (vp_cell _ _)
      rw [hf]
      exact e1)) ⟨Nat.le_trans hS.1 (by omega), fun q h1 h2 => (o1 q (Nat.lt_of_lt_of_le h1 hS.1)).trans (hS.2.1 q h1 h2), hS.2.2⟩
  show W p l e R s m args below meth c H1 locs (cells + 1) (slots + N) Q (F0 m (pc + 2) ls (.ref H.size :: st.map (j_v ad)))
  rw [← show ad (h.1.length + 1) = H.size from h0]
  exact hkw
theorem rn_anewarray {C : String} {idx t N : Nat} {n : Int32} (hd : decode M.2.1 pc = .ok (.anewarray idx, 3)) (ht : j_ty[t]? = some (.object C)) (hw : Cond.classLink M.1.cls idx C ∈ j_all) (ho : C ∈ j_ao) (hn : ¬ n < 0) (hN : n.toNatClampNeg = N) (hby : N * 4 ≤ 536870912)
    (kk : Rn l D ad tc L xs M d lo (pc + 3) lv (.ref (h.1.length + 1) :: st) (h.1 ++ [.inl (t, N, .inr (.inr (.inr (.inr (fun _ => none)))))], h.2 + N) r h') : Rn l D ad tc L xs M d lo pc lv (.int n :: st) h r h' := by
  refine rn_make (x := .inl (t, N, .inr (.inr (.inr (.inr (fun _ => none)))))) (n := N) (fun p e R s m args below meth c H locs cells slots ls Q hF hc hs hP hS kw => ?_) kk
  obtain ⟨hx, hb, hml, hown, hts, hkw, hK, hX, hbl, hnm, hinj⟩ := hF
  subst hN
  refine W.anew hx hb hown (hts _ hw) (va_AO.use (hkw.2 C ho)) rfl hd rfl hn hby hc hs fun cA kA comp f1 f2 f3 f4 => ?_
  have h0 := hP.2 0
  have hcA : cA = tc t := by
    obtain ⟨kA', comp', g1, g2, g3, g4⟩ := (hK.2 t _ (j_ty_at ht)).2
    exact Option.some.inj (f1.symm.trans g4)
  subst hcA
  generalize hH1 : H.push ({ cls := tc t, slots := Array.replicate n.toNatClampNeg .null, vm := .none } : Cell) = H1
  have z1 : H1.size = H.size + 1 := by rw [← hH1, Array.size_push]
  have e1 : H1[H.size]? = some (arrV (tc t) n.toNatClampNeg (fun _ => .null)) := by rw [← hH1, Array.getElem?_push_size, ← arrV_new]
  have o1 : ∀ q : Nat, q < H.size → H1[q]? = H[q]? := fun q hq => by rw [← hH1, Array.getElem?_push, if_neg (Nat.ne_of_lt hq)]
  have hkw := kw H1 (j_push (n := n.toNatClampNeg) hP z1 o1 (x := .inl (t, n.toNatClampNeg, .inr (.inr (.inr (.inr (fun _ => none)))))) (by
      show H1[H.size]? = some (vp_cell (tc t) (n.toNatClampNeg, .inr (.inr (.inr (.inr (j_f ad (fun _ => none)))))))
      rw [vp_cell_q]
      exact e1)) ⟨Nat.le_trans hS.1 (by omega), fun q h1 h2 => (o1 q (Nat.lt_of_lt_of_le h1 hS.1)).trans (hS.2.1 q h1 h2), hS.2.2⟩
  show W p l e R s m args below meth c H1 locs (cells + 1) (slots + n.toNatClampNeg) Q (F0 m (pc + 3) ls (.ref H.size :: st.map (j_v ad)))
  rw [← show ad (h.1.length + 1) = H.size from h0]
  exact hkw
/-- an object into an array of its own class -/
theorem rn_aastore {a t n v ci : Nat} {f : Nat → Option Nat} {q : vw_C} {vs : List Value} {i : Int32} (hd : decode M.2.1 pc = .ok (.aastore, 1)) (he : h.1[a]? = some (.inl (t, n, .inr (.inr (.inr (.inr f)))))) (hc : j_cl[ci]? = some q) (ht : j_ty[t]? = some (.object q.1)) (hv : h.1[v]? = some (.inr (ci, vs))) (hin : vp_in i n)
    (kk : Rn l D ad tc L xs M d lo (pc + 1) lv st (h.1.set a (.inl (t, n, .inr (.inr (.inr (.inr (va_up f i.toNatClampNeg (some (v + 1)))))))), h.2) r h') : Rn l D ad tc L xs M d lo pc lv (.ref (v + 1) :: .int i :: .ref (a + 1) :: st) h r h' := by
  refine rn_cell (h2 := (h.1.set a (.inl (t, n, .inr (.inr (.inr (.inr (va_up f i.toNatClampNeg (some (v + 1)))))))), h.2)) (by simp) rfl (fun p e R s m args below meth c H locs cells slots ls Q hF hl hP hS kw => ?_) kk
  have hlt : i.toNatClampNeg < n := Nat.not_le.mp fun q => hin (Or.inr q)
  have h0 : ¬ i < 0 := fun q => hin (Or.inl q)
  have hK := hF.2.2.2.2.2.2.1
  obtain ⟨r', hr', cellV, g1, g2, g3, -⟩ := hP.1 v _ (j_w_get hv)
  have hcls := (hK.1 ci q hc).2
  obtain ⟨kA, comp, k1, k2, k3, -⟩ := (hK.2 t _ (j_ty_at ht)).2
  have hcomp : comp = D.1 ci := Option.some.inj (k3.symm.trans hcls.1)
  subst hcomp
  obtain ⟨kC, hkC, -⟩ := hcls.2
  have hcl : H[ad (a + 1)]? = some (vp_cell (tc t) (n, .inr (.inr (.inr (.inr (j_f ad f)))))) := hP.1 a _ (j_w_get he)
  refine W.aast hF.1 hF.2.1 hcl (fun q h => by cases h) (fun h => by cases h) k1 k2 rfl hkC ⟨h0, by show _ < (arrV _ _ _).slots.size; rw [arrV_size]; exact hlt⟩ g1 (fun q h => by rw [g3] at h; cases h) (by rw [g2]; exact hkC) (by rw [g2]; exact va_assign hcls) rfl rfl hd fun H1 e1 z oq => ?_
  refine kw H1 _ ⟨?_, fun j => by rw [List.length_set, z]; exact hP.2 j⟩ (hS.put z oq ⟨a, rfl⟩)
  have hset := hP.1.set (j_D hF.2.2.2.2.2.2.2.2.2.2) (j_w_get he) (e := .inl (tc t, n, .inr (.inr (.inr (.inr (j_f ad (va_up f i.toNatClampNeg (some (v + 1))))))))) (H1 := H1) ?_ oq
  · have e := j_w_set (ad := ad) (tc := tc) (G := h.1) (k := a) (c := .inl (t, n, .inr (.inr (.inr (.inr (va_up f i.toNatClampNeg (some (v + 1))))))))
    rw [← e]
    exact hset
  · show H1[ad (a + 1)]? = some (vp_cell _ _)
    rw [e1, vp_cell_q, arrV_store]
    refine (congrArg (fun g => some (arrV (tc t) n g)) (funext fun q => ?_) : some (arrV (tc t) n (updV (fun j => va_rf (j_f ad f j)) i.toNatClampNeg (.ref (ad (v + 1))))) = some (arrV (tc t) n (fun j => va_rf (j_f ad (va_up f i.toNatClampNeg (some (v + 1))) j))))
    by_cases hq : q = i.toNatClampNeg
    · subst hq
      simp [updV, va_up, va_rf, j_f]
    · simp [updV, va_up, j_f, hq]
end J5
end
section
/-! contracts and calls of the little machine -/
theorem j_good : ∀ w ∈ j_all, goodWord w = true := fun _ h => (List.mem_filter.mp h).2
def j_ws (M : j_M) : List Cond := Cond.code M.1 M.2.1 M.2.2.1 M.2.2.2 :: j_all
theorem j_GI {M : j_M} (hc : Cond.code M.1 M.2.1 M.2.2.1 M.2.2.2 ∈ j_all) : GoodIn j_all (j_ws M) := fun w h => by
  rcases List.mem_cons.mp h with rfl | h
  · exact ⟨hc, good_of_word (j_good _ hc)⟩
  · exact ⟨h, good_of_word (j_good _ h)⟩
def j_Q (D : va_G) (ad : Nat → Nat) (tc : Nat → ClassId) (r : Option Value) (h' : j_H) : Array Value → State → Outcome → State → Prop := fun _ st oc t => oc = .returned (r.map (j_v ad)) ∧ j_P D ad tc t.heap h' ∧ va_F (j_A ad) st t
def j_In (D : va_G) (ad : Nat → Nat) (tc : Nat → ClassId) (L : Nat) (xs : Nat → Int32) (h : j_H) : State → Prop := fun U => j_P D ad tc U.heap h ∧ va_K D j_cl (j_tys tc) U ∧ j_KW U ∧ va_X (ad 0) L xs U U.heap ∧ ad 0 < U.heap.size
/-- the contract of a method: called on As over the cells h, it returns r over the cells h' -/
def Cn (l : Launch) (D : va_G) (ad : Nat → Nat) (tc : Nat → ClassId) (L : Nat) (xs : Nat → Int32) (M : j_M) (d lo : Nat) (As : List Value) (h : j_H) (r : Option Value) (h' : j_H) : Prop :=
  (h.1.length ≤ h'.1.length ∧ h.2 ≤ h'.2) ∧ ((∀ i j, ad i = ad j → i = j) → Met l M.1 (j_ws M) { frames := d, cells := h'.1.length - h.1.length, slots := h'.2 - h.2, locals := lo } (va_Pc (As.map (j_v ad)) (j_In D ad tc L xs h)) (j_Q D ad tc r h') (h'.1.length - h.1.length) (h'.2 - h.2) (j_A ad))
theorem j_KW_moved {u U : State} (hW : u.WarmedH U.vm) (h : j_KW u) : j_KW U := ⟨fun w hw => va_Nw.warmM hW (h.1 w hw), fun C hC => (h.2 C hC).moved hW.alike⟩
theorem j_KW_same {u U : State} (hW : u.vm = U.vm) (ha : u.vm.Alike U.vm) (h : j_KW u) : j_KW U := ⟨fun w hw => va_Nw.same rfl hW (h.1 w hw), fun C hC => (h.2 C hC).moved ha⟩
theorem j_alike (U : State) (g : JFrame) (mk : MethodId) (a : Array Value) : U.vm.Alike (U.calling g mk a).vm := (State.WarmedH.refl U).alike
theorem j_blind {D : va_G} {ad : Nat → Nat} {tc : Nat → ClassId} {L : Nat} {xs : Nat → Int32} {av : List Value} {h : j_H} : FrameBlind (va_Pc av (j_In D ad tc L xs h)) := fun a U g mk q =>
  ⟨q.1, q.2.1, q.2.2.1.moved (j_alike U g mk a), j_KW_same rfl (j_alike U g mk a) q.2.2.2.1, q.2.2.2.2.1.moved (j_alike U g mk a), q.2.2.2.2.2⟩
/-- what a callee finds at its start -/
theorem j_at_call {D : va_G} {ad : Nat → Nat} {tc : Nat → ClassId} {L : Nat} {xs : Nat → Int32} {M : j_M} {p : Program} {s : State} {m : MethodId} {args : Array Value} {meth : Method} {c : Code} {h : j_H} {H : Heap} {locs : List Loc} (hF : j_Fix D ad tc L xs M p s m args meth c) (hP : j_P D ad tc H h) (hS : va_S (j_A ad) s.heap H locs) {U : State} (hU : U.heap = H) (hW : s.WarmedH U.vm) : j_In D ad tc L xs h U := by
  obtain ⟨hx, hb, hml, hown, hts, hkw, hK, hX, hbl, hnm, hinj⟩ := hF
  refine ⟨by rw [hU]; exact hP, hK.moved hW.alike, j_KW_moved hW hkw, ?_, ?_⟩
  · rw [hU]
    exact (hX.kept (hS.2.1 _ hbl (j_nA hinj))).moved hW.alike
  · rw [hU]
    exact Nat.lt_of_lt_of_le hbl hS.1
section J6
variable {l : Launch} {D : va_G} {ad : Nat → Nat} {tc : Nat → ClassId} {L : Nat} {xs : Nat → Int32} {M N : j_M} {d lo d' lo' pc idx n : Nat} {lv : j_L} {st As rest : List Value} {h h' h1 : j_H} {r rv : Option Value}
theorem j_run {p : Program} {e : Env} {R : Room} {s : State} {m : MethodId} {args : Array Value} {below : List Frame} {meth : Method} {c : Code} {H : Heap} {locs : List Loc} {cells slots mc ms : Nat} {ls : Array Slot} {Q : State → Prop} {a : Array Value} {st0 : List Value}
    (hF : j_Fix D ad tc L xs M p s m args meth c) (q1 : d ≤ R.frames) (q2 : lo ≤ R.locals) (q3 : mc ≤ R.cells) (q4 : ms ≤ R.slots) (q5 : cells + (h'.1.length - h.1.length) = mc) (q6 : slots + (h'.2 - h.2) = ms) (hl : j_lv ad ls M.2.2.1 lv) (hS : va_S (j_A ad) s.heap H locs)
    (hQ : ∀ (pcr : Nat) (lsr : Array Slot) (Hr : Heap) (locsr : List Loc) (ins : Instr), decode M.2.1 pcr = .ok (ins, 1) → j_ret ins r → j_P D ad tc Hr h' → va_S (j_A ad) s.heap Hr locsr → W p l e R s m args below meth c Hr locsr mc ms Q (F0 m pcr lsr (r.toList.map (j_v ad))))
    (hle : h.1.length ≤ h1.1.length ∧ h.2 ≤ h1.2) (hr : va_Run p l e R s m args below meth c H locs cells slots (h1.1.length - h.1.length) (h1.2 - h.2) (F0 m pc ls st0) (rest.map (j_v ad)) (j_Q D ad tc rv h1 a) (j_A ad))
    (k : Rn l D ad tc L xs M d lo (pc + 3) lv (rv.toList ++ rest) h1 r h') : W p l e R s m args below meth c H locs cells slots Q (F0 m pc ls st0) := by
  intro T hT X
  obtain ⟨v, st₀, t, T', L', g0, X', hL, e1, e2, ⟨hv, hP1, hz, hk⟩, stp⟩ := hr T hT X
  have hv : v = rv.map (j_v ad) := by injection hv
  subst hv
  rw [g0] at hz hk
  have hk0 := k.1
  obtain ⟨t2, a1, b1⟩ := k.2 p e R s m args below meth c T'.heap (locs ++ L') _ _ mc ms ls Q hF q1 q2 q3 q4 (by omega) (by omega) hl (by rw [e1]; exact hP1)
    ⟨Nat.le_trans hS.1 (by rw [e1]; exact hz), fun q h1 h2 => by rw [e1, hk q (Nat.lt_of_lt_of_le h1 hS.1) h2]; exact hS.2.1 q h1 h2, fun q hq => by
      rcases List.mem_append.mp hq with h | h
      · exact hS.2.2 q h
      · exact hL q h⟩ hQ T' rfl X'
  refine ⟨t2, stp t2 ?_, b1⟩
  rw [List.map_append] at a1
  have ee : (rv.map (j_v ad)).toList = rv.toList.map (j_v ad) := by cases rv <;> rfl
  rw [ee]
  exact a1
def j_nMH (M : j_M) : Prop := M.1.cls ≠ "java/lang/invoke/MethodHandle" ∧ M.1.cls ≠ "java/lang/invoke/VarHandle"
/-- what the tables say of a call: virtual (a private one too), by the own entry idx, of N with n arguments -/
def j_cv (own : String) (idx : Nat) (N : j_M) (n : Nat) : Prop := Cond.methodLink own idx N.1 ∈ j_all ∧ Cond.instanceMethod N.1 ∈ j_all ∧ Cond.selects N.1.cls N.1 N.1 ∈ j_all ∧ Cond.initialized N.1.cls ∈ j_all ∧ Cond.code N.1 N.2.1 N.2.2.1 N.2.2.2 ∈ j_all ∧ N.1.cls ≠ "java/lang/invoke/MethodHandle" ∧ N.1.cls ≠ "java/lang/invoke/VarHandle" ∧ (parseMethodDescriptor N.1.desc).map (fun d => d.parameters.length) = some n
theorem rn_callV {a ci : Nat} {q : vw_C} {fs : List Value} (hd : decode M.2.1 pc = .ok (.invokevirtual idx, 3)) (hw : j_cv M.1.cls idx N n) (hc : Cn l D ad tc L xs N d' lo' (.ref (a + 1) :: As) h rv h1) (hn : As.length = n) (he : h.1[a]? = some (.inr (ci, fs))) (hq : j_cl[ci]? = some q) (hq1 : q.1 = N.1.cls)
    (hd1 : d' + 1 ≤ d) (hlo : 8 + (N.2.2.1 + 11) + lo' ≤ lo) (hst : st = As.reverse ++ .ref (a + 1) :: rest) (hsum : (rest.map fun v => v.category).sum ≤ 8)
    (k : Rn l D ad tc L xs M d lo (pc + 3) lv (rv.toList ++ rest) h1 r h') : Rn l D ad tc L xs M d lo pc lv st h r h' := by
  subst hst
  refine ⟨⟨Nat.le_trans hc.1.1 k.1.1, Nat.le_trans hc.1.2 k.1.2⟩, fun p e R s m args below meth c H locs cells slots mc ms ls Q hF q1 q2 q3 q4 q5 q6 hl hP hS hQ => ?_⟩
  obtain ⟨w1, w2, w3, w4, w5, w6, w7, w8⟩ := hw
  have hts := hF.2.2.2.2.1
  have hk0 := k.1
  have hc0 := hc.1
  have hrec := va_recv hF.2.2.2.2.2.2.1 hP.1 hq (j_w_get he)
  refine j_run (a := (Value.ref (ad (a + 1)) :: As.map (j_v ad)).toArray) hF q1 q2 q3 q4 q5 q6 hl hS hQ hc.1 ?_ k
  refine va_runV (bytes := N.2.1) (maxL := N.2.2.1) (ret := N.2.2.2) (As := As.map (j_v ad)) (rest := rest.map (j_v ad)) (b := ad (a + 1)) (C := N.1.cls) (n := n) (Ts := j_all) (nL := M.2.2.1) ⟨hF.1, hF.2.1, hF.2.2.1, hF.2.2.2.1, hts⟩ (hc.2 hF.2.2.2.2.2.2.2.2.2.2) ?_ ⟨j_blind, by rw [← hq1]; exact hrec, fun U hU hW => ⟨rfl, j_at_call hF hP hS hU hW⟩⟩ rfl (by rw [List.length_map]; exact hn) hl.1 (by show List.map (j_v ad) (As.reverse ++ .ref (a + 1) :: rest) = _; rw [List.map_append, List.map_reverse]; rfl) (lv_room (by rw [List.map_map, show (Value.category ∘ j_v ad) = Value.category from funext fun v => j_cat v]; exact hsum)) hd ⟨by omega, by omega⟩
  exact ⟨⟨rfl, rfl, by show d' + 1 ≤ R.frames; omega, by show 8 + (N.2.2.1 + 11) + lo' ≤ R.locals; omega, pay_in hts (j_GI w5), List.mem_cons_self, hts _ w5, hts _ w4, ⟨w6, w7⟩, fun sig hs => by rw [hs] at w8; exact (Option.some.inj w8).symm, hts _ w1⟩, hts _ w2, hts _ w3⟩
def j_cs (own : String) (idx : Nat) (N : j_M) (n : Nat) : Prop := Cond.methodLink own idx N.1 ∈ j_all ∧ Cond.static N.1 ∈ j_all ∧ Cond.initialized N.1.cls ∈ j_all ∧ Cond.code N.1 N.2.1 N.2.2.1 N.2.2.2 ∈ j_all ∧ N.1.cls ≠ "java/lang/invoke/MethodHandle" ∧ N.1.cls ≠ "java/lang/invoke/VarHandle" ∧ (parseMethodDescriptor N.1.desc).map (fun d => d.parameters.length) = some n
theorem rn_callS (hd : decode M.2.1 pc = .ok (.invokestatic idx, 3)) (hw : j_cs M.1.cls idx N n) (hc : Cn l D ad tc L xs N d' lo' As h rv h1) (hn : As.length = n)
    (hd1 : d' + 1 ≤ d) (hlo : 8 + (N.2.2.1 + 11) + lo' ≤ lo) (hst : st = As.reverse ++ rest) (hsum : (rest.map fun v => v.category).sum ≤ 8)
    (k : Rn l D ad tc L xs M d lo (pc + 3) lv (rv.toList ++ rest) h1 r h') : Rn l D ad tc L xs M d lo pc lv st h r h' := by
  subst hst
  refine ⟨⟨Nat.le_trans hc.1.1 k.1.1, Nat.le_trans hc.1.2 k.1.2⟩, fun p e R s m args below meth c H locs cells slots mc ms ls Q hF q1 q2 q3 q4 q5 q6 hl hP hS hQ => ?_⟩
  have hts := hF.2.2.2.2.1
  have hk0 := k.1
  have hc0 := hc.1
  obtain ⟨w1, w2, w3, w4, w5, w6, w7⟩ := hw
  refine j_run (a := (As.map (j_v ad)).toArray) hF q1 q2 q3 q4 q5 q6 hl hS hQ hc.1 ?_ k
  refine va_runS (bytes := N.2.1) (maxL := N.2.2.1) (ret := N.2.2.2) (As := As.map (j_v ad)) (rest := rest.map (j_v ad)) (n := n) (Ts := j_all) (nL := M.2.2.1) ⟨hF.1, hF.2.1, hF.2.2.1, hF.2.2.2.1, hts⟩ (hc.2 hF.2.2.2.2.2.2.2.2.2.2) ?_ ⟨j_blind, fun U hU hW => ⟨rfl, j_at_call hF hP hS hU hW⟩⟩ rfl (by rw [List.length_map]; exact hn) hl.1 (by show List.map (j_v ad) (As.reverse ++ rest) = _; rw [List.map_append, List.map_reverse]) (lv_room (by rw [List.map_map, show (Value.category ∘ j_v ad) = Value.category from funext fun v => j_cat v]; exact hsum)) hd ⟨by omega, by omega⟩
  exact ⟨⟨rfl, rfl, by show d' + 1 ≤ R.frames; omega, by show 8 + (N.2.2.1 + 11) + lo' ≤ R.locals; omega, pay_in hts (j_GI w4), List.mem_cons_self, hts _ w4, hts _ w3, ⟨w5, w6⟩, fun sig hs => by rw [hs] at w7; exact (Option.some.inj w7).symm, hts _ w1⟩, hts _ w2⟩
def j_csn (own : String) (idx : Nat) (N : j_M) (n : Nat) (host : String) : Prop := (own, idx, N.1, host) ∈ j_nm ∧ Cond.static N.1 ∈ j_all ∧ Cond.initialized N.1.cls ∈ j_all ∧ Cond.code N.1 N.2.1 N.2.2.1 N.2.2.2 ∈ j_all ∧ N.1.cls ≠ "java/lang/invoke/MethodHandle" ∧ N.1.cls ≠ "java/lang/invoke/VarHandle" ∧ (parseMethodDescriptor N.1.desc).map (fun d => d.parameters.length) = some n
theorem rn_callSN {host : String} (hd : decode M.2.1 pc = .ok (.invokestatic idx, 3)) (hw : j_csn M.1.cls idx N n host) (hc : Cn l D ad tc L xs N d' lo' As h rv h1) (hn : As.length = n)
    (hd1 : d' + 1 ≤ d) (hlo : 8 + (N.2.2.1 + 11) + lo' ≤ lo) (hst : st = As.reverse ++ rest) (hsum : (rest.map fun v => v.category).sum ≤ 8)
    (k : Rn l D ad tc L xs M d lo (pc + 3) lv (rv.toList ++ rest) h1 r h') : Rn l D ad tc L xs M d lo pc lv st h r h' := by
  subst hst
  refine ⟨⟨Nat.le_trans hc.1.1 k.1.1, Nat.le_trans hc.1.2 k.1.2⟩, fun p e R s m args below meth c H locs cells slots mc ms ls Q hF q1 q2 q3 q4 q5 q6 hl hP hS hQ => ?_⟩
  have hts := hF.2.2.2.2.1
  have hk0 := k.1
  have hc0 := hc.1
  obtain ⟨w1, w2, w3, w4, w5, w6, w7⟩ := hw
  refine j_run (a := (As.map (j_v ad)).toArray) hF q1 q2 q3 q4 q5 q6 hl hS hQ hc.1 ?_ k
  refine va_runSN (bytes := N.2.1) (maxL := N.2.2.1) (ret := N.2.2.2) (As := As.map (j_v ad)) (rest := rest.map (j_v ad)) (n := n) (Ts := j_all) (nL := M.2.2.1) (host := host) ⟨hF.1, hF.2.1, hF.2.2.1, hF.2.2.2.1, hts⟩ (hc.2 hF.2.2.2.2.2.2.2.2.2.2) ?_ ⟨j_blind, fun U hU hW => ⟨rfl, j_at_call hF hP hS hU hW⟩⟩ rfl (by rw [List.length_map]; exact hn) hl.1 (by show List.map (j_v ad) (As.reverse ++ rest) = _; rw [List.map_append, List.map_reverse]) (lv_room (by rw [List.map_map, show (Value.category ∘ j_v ad) = Value.category from funext fun v => j_cat v]; exact hsum)) hd ⟨by omega, by omega⟩
  exact ⟨⟨⟨rfl, rfl, by show d' + 1 ≤ R.frames; omega, by show 8 + (N.2.2.1 + 11) + lo' ≤ R.locals; omega, pay_in hts (j_GI w4), List.mem_cons_self⟩, hts _ w4, hts _ w3, ⟨w5, w6⟩, fun sig hs => by rw [hs] at w7; exact (Option.some.inj w7).symm, va_Nw.use rfl (hF.2.2.2.2.2.1.1 _ w1)⟩, hts _ w2, trivial⟩
def j_ci (own : String) (idx : Nat) (N : j_M) (n : Nat) : Prop := Cond.methodLink own idx N.1 ∈ j_all ∧ Cond.instanceMethod N.1 ∈ j_all ∧ Cond.initialized N.1.cls ∈ j_all ∧ Cond.code N.1 N.2.1 N.2.2.1 N.2.2.2 ∈ j_all ∧ N.1.cls ≠ "java/lang/invoke/MethodHandle" ∧ N.1.cls ≠ "java/lang/invoke/VarHandle" ∧ (parseMethodDescriptor N.1.desc).map (fun d => d.parameters.length) = some n ∧ N.1.name = "<init>" ∧ N.2.2.2 = none
theorem rn_callI {a : Nat} (hd : decode M.2.1 pc = .ok (.invokespecial idx, 3)) (hw : j_ci M.1.cls idx N n) (hc : Cn l D ad tc L xs N d' lo' (.ref a :: As) h rv h1) (hn : As.length = n)
    (hd1 : d' + 1 ≤ d) (hlo : 8 + (N.2.2.1 + 11) + lo' ≤ lo) (hst : st = As.reverse ++ .ref a :: rest) (hsum : (rest.map fun v => v.category).sum ≤ 8)
    (k : Rn l D ad tc L xs M d lo (pc + 3) lv (rv.toList ++ rest) h1 r h') : Rn l D ad tc L xs M d lo pc lv st h r h' := by
  subst hst
  refine ⟨⟨Nat.le_trans hc.1.1 k.1.1, Nat.le_trans hc.1.2 k.1.2⟩, fun p e R s m args below meth c H locs cells slots mc ms ls Q hF q1 q2 q3 q4 q5 q6 hl hP hS hQ => ?_⟩
  have hts := hF.2.2.2.2.1
  have hk0 := k.1
  have hc0 := hc.1
  obtain ⟨w1, w2, w3, w4, w5, w6, w7, w8, w9⟩ := hw
  have hcm := hc.2 hF.2.2.2.2.2.2.2.2.2.2
  refine j_run (a := (Value.ref (ad a) :: As.map (j_v ad)).toArray) hF q1 q2 q3 q4 q5 q6 hl hS hQ hc.1 ?_ k
  refine va_runI (bytes := N.2.1) (maxL := N.2.2.1) (As := As.map (j_v ad)) (rest := rest.map (j_v ad)) (b := ad a) (n := n) (Ts := j_all) (nL := M.2.2.1) ⟨hF.1, hF.2.1, hF.2.2.1, hF.2.2.2.1, hts⟩ hcm ?_ ⟨j_blind, fun U hU hW => ⟨rfl, j_at_call hF hP hS hU hW⟩⟩ rfl (by rw [List.length_map]; exact hn) hl.1 (by show List.map (j_v ad) (As.reverse ++ .ref a :: rest) = _; rw [List.map_append, List.map_reverse]; rfl) (lv_room (by rw [List.map_map, show (Value.category ∘ j_v ad) = Value.category from funext fun v => j_cat v]; exact hsum)) hd ⟨by omega, by omega⟩
  rw [← w9]
  exact ⟨⟨rfl, rfl, by show d' + 1 ≤ R.frames; omega, by show 8 + (N.2.2.1 + 11) + lo' ≤ R.locals; omega, pay_in hts (j_GI w4), List.mem_cons_self, hts _ w4, hts _ w3, ⟨w5, w6⟩, fun sig hs => by rw [hs] at w7; exact (Option.some.inj w7).symm, hts _ w1⟩, w8, hts _ w2⟩
def j_cin (own : String) (idx : Nat) (N : j_M) (n : Nat) (host : String) : Prop := (own, idx, N.1, host) ∈ j_nm ∧ Cond.instanceMethod N.1 ∈ j_all ∧ Cond.initialized N.1.cls ∈ j_all ∧ Cond.code N.1 N.2.1 N.2.2.1 N.2.2.2 ∈ j_all ∧ N.1.cls ≠ "java/lang/invoke/MethodHandle" ∧ N.1.cls ≠ "java/lang/invoke/VarHandle" ∧ (parseMethodDescriptor N.1.desc).map (fun d => d.parameters.length) = some n ∧ N.1.name = "<init>" ∧ N.2.2.2 = none
theorem rn_callIN {a : Nat} {host : String} (hd : decode M.2.1 pc = .ok (.invokespecial idx, 3)) (hw : j_cin M.1.cls idx N n host) (hc : Cn l D ad tc L xs N d' lo' (.ref a :: As) h rv h1) (hn : As.length = n)
    (hd1 : d' + 1 ≤ d) (hlo : 8 + (N.2.2.1 + 11) + lo' ≤ lo) (hst : st = As.reverse ++ .ref a :: rest) (hsum : (rest.map fun v => v.category).sum ≤ 8)
    (k : Rn l D ad tc L xs M d lo (pc + 3) lv (rv.toList ++ rest) h1 r h') : Rn l D ad tc L xs M d lo pc lv st h r h' := by
  subst hst
  refine ⟨⟨Nat.le_trans hc.1.1 k.1.1, Nat.le_trans hc.1.2 k.1.2⟩, fun p e R s m args below meth c H locs cells slots mc ms ls Q hF q1 q2 q3 q4 q5 q6 hl hP hS hQ => ?_⟩
  have hts := hF.2.2.2.2.1
  have hk0 := k.1
  have hc0 := hc.1
  obtain ⟨w1, w2, w3, w4, w5, w6, w7, w8, w9⟩ := hw
  have hcm := hc.2 hF.2.2.2.2.2.2.2.2.2.2
  refine j_run (a := (Value.ref (ad a) :: As.map (j_v ad)).toArray) hF q1 q2 q3 q4 q5 q6 hl hS hQ hc.1 ?_ k
  refine va_runIN (bytes := N.2.1) (maxL := N.2.2.1) (host := host) (As := As.map (j_v ad)) (rest := rest.map (j_v ad)) (b := ad a) (n := n) (Ts := j_all) (nL := M.2.2.1) ⟨hF.1, hF.2.1, hF.2.2.1, hF.2.2.2.1, hts⟩ hcm ?_ ⟨j_blind, fun U hU hW => ⟨rfl, j_at_call hF hP hS hU hW⟩⟩ rfl (by rw [List.length_map]; exact hn) hl.1 (by show List.map (j_v ad) (As.reverse ++ .ref a :: rest) = _; rw [List.map_append, List.map_reverse]; rfl) (lv_room (by rw [List.map_map, show (Value.category ∘ j_v ad) = Value.category from funext fun v => j_cat v]; exact hsum)) hd ⟨by omega, by omega⟩
  rw [← w9]
  exact ⟨⟨⟨rfl, rfl, by show d' + 1 ≤ R.frames; omega, by show 8 + (N.2.2.1 + 11) + lo' ≤ R.locals; omega, pay_in hts (j_GI w4), List.mem_cons_self⟩, hts _ w4, hts _ w3, ⟨w5, w6⟩, fun sig hs => by rw [hs] at w7; exact (Option.some.inj w7).symm, va_Nw.use rfl (hF.2.2.2.2.2.1.1 _ w1)⟩, w8, hts _ w2⟩
/-- Object's constructor -/
theorem rn_objInit {a : Nat} (hd : decode M.2.1 pc = .ok (.invokespecial idx, 3)) (w1 : Cond.methodLink M.1.cls idx objectInit ∈ j_all) (w2 : Cond.instanceMethod objectInit ∈ j_all) (w3 : Cond.code objectInit ⟨#[0xb1]⟩ 1 none ∈ j_all) (hd1 : 1 ≤ d) (hlo : 20 ≤ lo) (hsum : (rest.map fun v => v.category).sum ≤ 8)
    (k : Rn l D ad tc L xs M d lo (pc + 3) lv rest h r h') : Rn l D ad tc L xs M d lo pc lv (.ref a :: rest) h r h' :=
  rn_pure (fun p e R s m args below meth c H locs cells slots ls Q hF q1 q2 hl hP hS kw => by
    have hts := hF.2.2.2.2.1
    have hro := lv_room (m := m) (pc := pc) (ls := ls) (rest := (Value.ref a :: rest).map (j_v ad)) (st := rest.map (j_v ad)) (by rw [List.map_map, show (Value.category ∘ j_v ad) = Value.category from funext fun v => j_cat v]; exact hsum)
    exact W.objInit (a := ad a) (rest := rest.map (j_v ad)) hF.1 hF.2.1 hF.2.2.2.1 (hts _ w1) (hts _ w2) (hts _ w3) rfl (hl.1.trans hF.2.2.1.symm) rfl hd (by omega) (by omega) kw) k
/-- the return -/
theorem rn_ret {ins : Instr} (hd : decode M.2.1 pc = .ok (ins, 1)) (hr : j_ret ins r) (hst : st = r.toList) : Rn l D ad tc L xs M d lo pc lv st h r h := by
  subst hst
  refine ⟨⟨Nat.le_refl _, Nat.le_refl _⟩, fun p e R s m args below meth c H locs cells slots mc ms ls Q hF q1 q2 q3 q4 q5 q6 hl hP hS hQ => ?_⟩
  have e1 : cells = mc := by omega
  have e2 : slots = ms := by omega
  subst e1
  subst e2
  exact hQ pc ls H locs ins hd hr hP hS
/-- the result is of the method's type -/
def j_rok (ret : Option FieldType) (r : Option Value) : Prop := match r with
  | none => ret = none
  | some (.int v) => ∃ ty, ret = some ty ∧ narrow ty (.int v) = .int v
  | some (.long _) => ret = some .long
  | some (.float _) => ret = some .float
  | some (.double _) => ret = some .double
  | some (.ref _) => ∃ rt, ret = some rt ∧ ((∃ n, rt = .object n) ∨ ∃ t, rt = .array t)
  | some .null => ∃ rt, ret = some rt ∧ ((∃ n, rt = .object n) ∨ ∃ t, rt = .array t)
  | _ => False
theorem cn_of {lv0 : j_L} (hy : plainName M.1.cls = true) (hok : j_rok M.2.2.2 r) (hlen : ∀ ad, (lg_sl (As.map (j_v ad))).length ≤ M.2.2.1) (hlv : ∀ ad, lv_args 0 (As.map (j_v ad)) = lv0.map (fun q : Nat × Value => (q.1, j_v ad q.2)))
    (k : Rn l D ad tc L xs M d lo 0 lv0 [] h r h') : Cn l D ad tc L xs M d lo As h r h' := by
  refine ⟨k.1, fun hinj => ?_⟩
  refine Met.ofW (cc := M.2.1) (maxL := M.2.2.1) (ret := M.2.2.2) hy rfl ?_
  intro p e s m args below meth c s₁ B hml hv
  obtain ⟨rfl, hP, hK, hkw, hX, hbl⟩ := hv
  have hts := atoms_spec (ws := j_ws M) B.pre
  have hown : s.vm.findClass M.1.cls = some m.cls := findClass_of_methodNamed B.named
  have hnm : meth.name = M.1.name := (name_of_methodNamed B.named B.method).1
  have hr := B.returns
  have hlocks := B.notSynchronized
  have hF : j_Fix D ad tc L xs M p s m (As.map (j_v ad)).toArray meth c := ⟨B.exec, B.bytes, hml, hown, fun w hw => hts w (List.mem_cons_of_mem _ hw), hkw, hK, hX, hbl, hnm, hinj⟩
  have hl := lv_entry (As.map (j_v ad)) (n := M.2.2.1) (hlen ad)
  rw [lg_entry_eq]
  generalize (lg_sl (As.map (j_v ad)) ++ List.replicate (M.2.2.1 - (lg_sl (As.map (j_v ad))).length) Slot.unset).toArray = ls at hl ⊢
  rw [hlv ad] at hl
  refine k.2 p e _ s m _ below meth c s.heap [] 0 0 (h'.1.length - h.1.length) (h'.2 - h.2) ls _ hF (Nat.le_refl _) (Nat.le_refl _) (Nat.le_refl _) (Nat.le_refl _) (by omega) (by omega) hl hP va_S.rf ?_
  intro pcr lsr Hr locsr ins hdr hret hPr hSr
  have hx := B.exec
  have hb := B.bytes
  have fin : ∀ t : State, t.heap = Hr → s.WarmedH t.vm → j_Q D ad tc r h' (As.map (j_v ad)).toArray s (.returned (r.map (j_v ad))) t := fun t ht _ => ⟨rfl, by rw [ht]; exact hPr, hSr.F ht⟩
  match r, ins, hret, hok, fin with
  | none, .return_, _, hok, fin => exact W.vret hx hb (hr.trans hok) fin hSr.2.2 hdr hlocks
  | some (.int v), .ireturn, _, ⟨ty, e1, e2⟩, fin => exact W.zret (ty := ty) hx hb (hr.trans e1) e2 fin hSr.2.2 hdr hlocks
  | some (.long v), .lreturn, _, hok, fin => exact W.lret hx hb (hr.trans hok) fin hSr.2.2 hdr hlocks
  | some (.float v), .freturn, _, hok, fin => exact W.fret hx hb (hr.trans hok) fin hSr.2.2 hdr hlocks
  | some (.double v), .dreturn, _, hok, fin => exact W.dret hx hb (hr.trans hok) fin hSr.2.2 hdr hlocks
  | some (.ref v), .areturn, _, ⟨rt, e1, e2⟩, fin => exact W.aret (rt := rt) hx hb (hr.trans e1) e2 (Or.inr ⟨_, rfl⟩) fin hSr.2.2 hdr hlocks
  | some .null, .areturn, _, ⟨rt, e1, e2⟩, fin => exact W.aret (rt := rt) hx hb (hr.trans e1) e2 (Or.inl rfl) fin hSr.2.2 hdr hlocks
end J6
end
section
/-! the methods, and what the tables say of the entries that they use -/
abbrev mX0_init : j_M := (yX0_init, cX0_init, 3, none)
abbrev mX0_forget : j_M := (yX0_forget, cX0_forget, 2, none)
abbrev mX0_paths : j_M := (yX0_paths, cX0_paths, 1, (some (.object "SlackHall$Paths")))
abbrev mX0_delays : j_M := (yX0_delays, cX0_delays, 1, (some (.object "SlackHall$Delays")))
abbrev mX0_timing : j_M := (yX0_timing, cX0_timing, 4, (some (.object "SlackHall$Timing")))
abbrev mX0_leastOfAll : j_M := (yX0_leastOfAll, cX0_leastOfAll, 5, (some .double))
abbrev mX0_endsInNeed : j_M := (yX0_endsInNeed, cX0_endsInNeed, 6, (some .int))
abbrev mX0_leastWith : j_M := (yX0_leastWith, cX0_leastWith, 8, (some .double))
abbrev mX0_bestChange : j_M := (yX0_bestChange, cX0_bestChange, 8, (some .int))
abbrev mX0_makesIdle : j_M := (yX0_makesIdle, cX0_makesIdle, 9, (some .boolean))
abbrev mX1_init : j_M := (yX1_init, cX1_init, 2, none)
abbrev mX1_hasClock : j_M := (yX1_hasClock, cX1_hasClock, 2, (some .boolean))
abbrev mX1_hasCorner : j_M := (yX1_hasCorner, cX1_hasCorner, 2, (some .boolean))
abbrev mX1_hasNode : j_M := (yX1_hasNode, cX1_hasNode, 2, (some .boolean))
abbrev mX1_addClock : j_M := (yX1_addClock, cX1_addClock, 7, (some .int))
abbrev mX1_addCorner : j_M := (yX1_addCorner, cX1_addCorner, 3, (some .int))
abbrev mX1_addNode : j_M := (yX1_addNode, cX1_addNode, 6, (some .int))
abbrev mX1_addRule : j_M := (yX1_addRule, cX1_addRule, 5, (some .int))
abbrev mX1_timesFeed : j_M := (yX1_timesFeed, cX1_timesFeed, 4, (some .int))
abbrev mX1_winnerOf : j_M := (yX1_winnerOf, cX1_winnerOf, 6, (some .int))
abbrev mX1_isOneGroup : j_M := (yX1_isOneGroup, cX1_isOneGroup, 3, (some .boolean))
abbrev mX1_gapOf : j_M := (yX1_gapOf, cX1_gapOf, 5, (some .int))
abbrev mX1_greatestDivisor : j_M := (yX1_greatestDivisor, cX1_greatestDivisor, 6, (some .int))
abbrev mX2_init : j_M := (yX2_init, cX2_init, 1, none)
abbrev mX2_tell : j_M := (yX2_tell, cX2_tell, 2, (some .int))
abbrev mX3_init : j_M := (yX3_init, cX3_init, 1, none)
abbrev mX4_init : j_M := (yX4_init, cX4_init, 2, none)
abbrev mX4_prepare : j_M := (yX4_prepare, cX4_prepare, 1, none)
abbrev mX4_reckon : j_M := (yX4_reckon, cX4_reckon, 4, none)
abbrev mX4_burden : j_M := (yX4_burden, cX4_burden, 3, none)
abbrev mX4_riseOf : j_M := (yX4_riseOf, cX4_riseOf, 5, (some .double))
abbrev mX4_unsized : j_M := (yX4_unsized, cX4_unsized, 2, (some .double))
abbrev mX4_ofEdge : j_M := (yX4_ofEdge, cX4_ofEdge, 3, (some .double))
abbrev mX5_init : j_M := (yX5_init, cX5_init, 2, none)
abbrev mX5_isStart : j_M := (yX5_isStart, cX5_isStart, 1, (some .boolean))
abbrev mX5_isEndKind : j_M := (yX5_isEndKind, cX5_isEndKind, 1, (some .boolean))
abbrev mX5_isGate : j_M := (yX5_isGate, cX5_isGate, 1, (some .boolean))
abbrev mX5_lag : j_M := (yX5_lag, cX5_lag, 1, (some .double))
abbrev mX5_makes : j_M := (yX5_makes, cX5_makes, 4, (some .boolean))
abbrev mX5_tell : j_M := (yX5_tell, cX5_tell, 2, (some .int))
abbrev mX6_init : j_M := (yX6_init, cX6_init, 2, none)
abbrev mX6_prepare : j_M := (yX6_prepare, cX6_prepare, 4, none)
abbrev mX6_join : j_M := (yX6_join, cX6_join, 4, none)
abbrev mX6_check : j_M := (yX6_check, cX6_check, 5, none)
abbrev mX6_reaches : j_M := (yX6_reaches, cX6_reaches, 3, (some .boolean))
abbrev mX6_comesTo : j_M := (yX6_comesTo, cX6_comesTo, 4, (some .boolean))
abbrev mX6_isChecked : j_M := (yX6_isChecked, cX6_isChecked, 3, (some .boolean))
abbrev mX6_hasCheck : j_M := (yX6_hasCheck, cX6_hasCheck, 2, (some .boolean))
abbrev mX6_gapBetween : j_M := (yX6_gapBetween, cX6_gapBetween, 3, (some .int))
abbrev mX6_waysTo : j_M := (yX6_waysTo, cX6_waysTo, 3, (some .int))
abbrev mX6_checkedPairs : j_M := (yX6_checkedPairs, cX6_checkedPairs, 3, (some .int))
abbrev mX6_crossings : j_M := (yX6_crossings, cX6_crossings, 5, (some .int))
abbrev mX6_isSafe : j_M := (yX6_isSafe, cX6_isSafe, 3, (some .boolean))
abbrev mX7_init : j_M := (yX7_init, cX7_init, 1, none)
abbrev mX7_fits : j_M := (yX7_fits, cX7_fits, 3, (some .boolean))
abbrev mX7_weight : j_M := (yX7_weight, cX7_weight, 1, (some .int))
abbrev mX8_init : j_M := (yX8_init, cX8_init, 5, none)
abbrev mX8_reckon : j_M := (yX8_reckon, cX8_reckon, 4, none)
abbrev mX8_delayOf : j_M := (yX8_delayOf, cX8_delayOf, 4, (some .double))
abbrev mX8_depart : j_M := (yX8_depart, cX8_depart, 4, none)
abbrev mX8_pass : j_M := (yX8_pass, cX8_pass, 9, none)
abbrev mX8_sourceOf : j_M := (yX8_sourceOf, cX8_sourceOf, 10, (some .int))
abbrev mX8_beats : j_M := (yX8_beats, cX8_beats, 8, (some .boolean))
abbrev mX8_settle : j_M := (yX8_settle, cX8_settle, 4, none)
abbrev mX8_leftForLate : j_M := (yX8_leftForLate, cX8_leftForLate, 9, (some .double))
abbrev mX8_leftForEarly : j_M := (yX8_leftForEarly, cX8_leftForEarly, 9, (some .double))
abbrev mX8_credit : j_M := (yX8_credit, cX8_credit, 4, (some .double))
abbrev mX8_lend : j_M := (yX8_lend, cX8_lend, 6, none)
abbrev mX8_arrivalOf : j_M := (yX8_arrivalOf, cX8_arrivalOf, 4, (some .double))
abbrev mX8_leftOf : j_M := (yX8_leftOf, cX8_leftOf, 3, (some .double))
abbrev mX8_leastAt : j_M := (yX8_leastAt, cX8_leastAt, 2, (some .double))
abbrev mX8_leastOfEnds : j_M := (yX8_leastOfEnds, cX8_leastOfEnds, 4, (some .double))
abbrev mX8_worstWay : j_M := (yX8_worstWay, cX8_worstWay, 8, (some .int))
abbrev mX8_worstStart : j_M := (yX8_worstStart, cX8_worstStart, 4, (some .int))
abbrev mX9_init : j_M := (yX9_init, cX9_init, 1, none)
abbrev mX9_clock : j_M := (yX9_clock, cX9_clock, 5, (some .int))
abbrev mX9_divide : j_M := (yX9_divide, cX9_divide, 5, (some .int))
abbrev mX9_corner : j_M := (yX9_corner, cX9_corner, 3, (some .int))
abbrev mX9_node : j_M := (yX9_node, cX9_node, 8, (some .int))
abbrev mX9_feed : j_M := (yX9_feed, cX9_feed, 4, (some .int))
abbrev mX9_size : j_M := (yX9_size, cX9_size, 4, (some .int))
abbrev mX9_wire : j_M := (yX9_wire, cX9_wire, 3, (some .int))
abbrev mX9_skew : j_M := (yX9_skew, cX9_skew, 4, (some .int))
abbrev mX9_exception : j_M := (yX9_exception, cX9_exception, 4, (some .int))
abbrev mX9_sign : j_M := (yX9_sign, cX9_sign, 3, (some .boolean))
abbrev mX9_knock : j_M := (yX9_knock, cX9_knock, 1, (some .int))
abbrev mX9_ofClock : j_M := (yX9_ofClock, cX9_ofClock, 3, (some .int))
abbrev mX9_ofNode : j_M := (yX9_ofNode, cX9_ofNode, 3, (some .int))
abbrev mX9_load : j_M := (yX9_load, cX9_load, 2, (some .double))
abbrev mX9_takes : j_M := (yX9_takes, cX9_takes, 3, (some .double))
abbrev mX9_arrival : j_M := (yX9_arrival, cX9_arrival, 6, (some .double))
abbrev mX9_winner : j_M := (yX9_winner, cX9_winner, 3, (some .int))
abbrev mX9_left : j_M := (yX9_left, cX9_left, 5, (some .double))
abbrev mX9_leftAt : j_M := (yX9_leftAt, cX9_leftAt, 4, (some .double))
abbrev mX9_borrow : j_M := (yX9_borrow, cX9_borrow, 3, (some .double))
abbrev mX9_ways : j_M := (yX9_ways, cX9_ways, 4, (some .int))
abbrev mX9_worst : j_M := (yX9_worst, cX9_worst, 3, (some .int))
abbrev mX9_many : j_M := (yX9_many, cX9_many, 2, (some .int))
abbrev mX9_least : j_M := (yX9_least, cX9_least, 2, (some .double))
abbrev mX9_wouldLeave : j_M := (yX9_wouldLeave, cX9_wouldLeave, 3, (some .double))
abbrev mX9_best : j_M := (yX9_best, cX9_best, 1, (some .int))
abbrev mX9_isIdle : j_M := (yX9_isIdle, cX9_isIdle, 3, (some .boolean))
abbrev mX9_digest : j_M := (yX9_digest, cX9_digest, 5, (some .long))
abbrev mX9_digestNode : j_M := (yX9_digestNode, cX9_digestNode, 7, (some .long))
abbrev mX9_mustBeOpen : j_M := (yX9_mustBeOpen, cX9_mustBeOpen, 2, none)
abbrev mX9_mustExist : j_M := (yX9_mustExist, cX9_mustExist, 1, none)
abbrev mX9_mustFit : j_M := (yX9_mustFit, cX9_mustFit, 1, none)
abbrev mX9_mustBePair : j_M := (yX9_mustBePair, cX9_mustBePair, 3, none)
abbrev mX9_isIn : j_M := (yX9_isIn, cX9_isIn, 3, (some .boolean))
abbrev mX9_isSize : j_M := (yX9_isSize, cX9_isSize, 1, (some .boolean))
abbrev mX9_smaller : j_M := (yX9_smaller, cX9_smaller, 4, (some .double))
abbrev mX9_greater : j_M := (yX9_greater, cX9_greater, 4, (some .double))
abbrev mJ6_bitCount_0f7a4 : j_M := (yJ6_bitCount_0f7a4, cJ6_bitCount_0f7a4, 1, (some .int))
theorem fp_X0_11 : j_fp RX0 11 0 3 (.array (.object "SlackHall$Timing")) := ⟨RX0, TX0, 7, tyX0, rfl, by decide, wi_0, wd_4, rfl, tyX0_ok, nmX0, rfl, Or.inr ⟨rfl, rfl⟩⟩
theorem fp_X0_17 : j_fp RX0 17 0 4 (.array (.object "SlackHall$Timing")) := ⟨RX0, TX0, 7, tyX0, rfl, by decide, wi_0, wd_5, rfl, tyX0_ok, nmX0, rfl, Or.inr ⟨rfl, rfl⟩⟩
theorem fp_X0_20 : j_fp RX0 20 0 0 (.object "SlackHall$Chip") := ⟨RX0, TX0, 7, tyX0, rfl, by decide, wi_0, wd_6, rfl, tyX0_ok, nmX0, rfl, Or.inr ⟨rfl, rfl⟩⟩
theorem no_X0_24 : j_no RX0 24 6 [.null, .null, .null, .null, .null, .int 0] := ⟨RX6, TX6, 6, tyX6, rfl, wi_6, tyX6_ok, wd_7, wd_8, wd_9, by intro j hj; match j, hj with | 0, _ => rfl | 1, _ => rfl | 2, _ => rfl | 3, _ => rfl | 4, _ => rfl | 5, _ => rfl, fun _ => rfl, rfl⟩
theorem ci_X0_26 : j_ci RX0 26 mX6_init 1 := ⟨wd_11, wd_12, wd_9, wd_10, by decide, by decide, by decide +kernel, rfl, rfl⟩
theorem fp_X0_29 : j_fp RX0 29 0 1 (.object "SlackHall$Paths") := ⟨RX0, TX0, 7, tyX0, rfl, by decide, wi_0, wd_13, rfl, tyX0_ok, nmX0, rfl, Or.inr ⟨rfl, rfl⟩⟩
theorem no_X0_33 : j_no RX0 33 4 [.null, .null, .null, .int 0] := ⟨RX4, TX4, 4, tyX4, rfl, wi_4, tyX4_ok, wd_14, wd_15, wd_16, by intro j hj; match j, hj with | 0, _ => rfl | 1, _ => rfl | 2, _ => rfl | 3, _ => rfl, fun _ => rfl, rfl⟩
theorem ci_X0_35 : j_ci RX0 35 mX4_init 1 := ⟨wd_18, wd_19, wd_16, wd_17, by decide, by decide, by decide +kernel, rfl, rfl⟩
theorem fp_X0_36 : j_fp RX0 36 0 2 (.object "SlackHall$Delays") := ⟨RX0, TX0, 7, tyX0, rfl, by decide, wi_0, wd_20, rfl, tyX0_ok, nmX0, rfl, Or.inr ⟨rfl, rfl⟩⟩
theorem fp_X0_40 : j_fp RX0 40 0 5 (.object "SlackHall$Delays") := ⟨RX0, TX0, 7, tyX0, rfl, by decide, wi_0, wd_21, rfl, tyX0_ok, nmX0, rfl, Or.inr ⟨rfl, rfl⟩⟩
theorem no_X0_9 : j_no RX0 9 8 [.null, .null, .null, .int 0, .null, .null, .null, .null, .int 0] := ⟨RX8, TX8, 9, tyX8, rfl, wi_8, tyX8_ok, wd_3, wd_22, wd_23, by intro j hj; match j, hj with | 0, _ => rfl | 1, _ => rfl | 2, _ => rfl | 3, _ => rfl | 4, _ => rfl | 5, _ => rfl | 6, _ => rfl | 7, _ => rfl | 8, _ => rfl, fun _ => rfl, rfl⟩
theorem fo_X0_29 : j_fo RX0 29 0 1 := ⟨RX0, TX0, 7, rfl, by decide, wi_0, wd_13, rfl⟩
theorem fo_X0_40 : j_fo RX0 40 0 5 := ⟨RX0, TX0, 7, rfl, by decide, wi_0, wd_21, rfl⟩
theorem ci_X0_43 : j_ci RX0 43 mX8_init 4 := ⟨wd_25, wd_26, wd_23, wd_24, by decide, by decide, by decide +kernel, rfl, rfl⟩
theorem fp_X0_46 : j_fp RX0 46 0 6 (.object "SlackHall$Timing") := ⟨RX0, TX0, 7, tyX0, rfl, by decide, wi_0, wd_27, rfl, tyX0_ok, nmX0, rfl, Or.inr ⟨rfl, rfl⟩⟩
theorem fo_X0_11 : j_fo RX0 11 0 3 := ⟨RX0, TX0, 7, rfl, by decide, wi_0, wd_4, rfl⟩
theorem fo_X0_36 : j_fo RX0 36 0 2 := ⟨RX0, TX0, 7, rfl, by decide, wi_0, wd_20, rfl⟩
theorem fo_X0_17 : j_fo RX0 17 0 4 := ⟨RX0, TX0, 7, rfl, by decide, wi_0, wd_5, rfl⟩
theorem fp_X0_50 : j_fp RX0 50 6 5 .boolean := ⟨RX6, TX6, 6, tyX6, rfl, by decide, wi_6, wd_28, rfl, tyX6_ok, nmX6, rfl, Or.inl rfl⟩
theorem fp_X0_54 : j_fp RX0 54 4 3 .boolean := ⟨RX4, TX4, 4, tyX4, rfl, by decide, wi_4, wd_29, rfl, tyX4_ok, nmX4, rfl, Or.inl rfl⟩
theorem fp_X0_55 : j_fp RX0 55 8 8 .boolean := ⟨RX8, TX8, 9, tyX8, rfl, by decide, wi_8, wd_30, rfl, tyX8_ok, nmX8, rfl, Or.inl rfl⟩
theorem cv_X0_56 : j_cv RX0 56 mX6_prepare 0 := ⟨wd_32, wd_33, wd_34, wd_9, wd_31, by decide, by decide, by decide +kernel⟩
theorem cv_X0_59 : j_cv RX0 59 mX4_prepare 0 := ⟨wd_36, wd_37, wd_38, wd_16, wd_35, by decide, by decide, by decide +kernel⟩
theorem fo_X0_55 : j_fo RX0 55 8 8 := ⟨RX8, TX8, 9, rfl, by decide, wi_8, wd_30, rfl⟩
theorem fo_X0_20 : j_fo RX0 20 0 0 := ⟨RX0, TX0, 7, rfl, by decide, wi_0, wd_6, rfl⟩
theorem fo_X0_60 : j_fo RX0 60 1 1 := ⟨RX1, TX1, 8, rfl, by decide, wi_1, wd_39, rfl⟩
theorem cv_X0_66 : j_cv RX0 66 mX8_reckon 1 := ⟨wd_41, wd_42, wd_43, wd_23, wd_40, by decide, by decide, by decide +kernel⟩
theorem fo_X0_72 : j_fo RX0 72 1 5 := ⟨RX1, TX1, 8, rfl, by decide, wi_1, wd_45, rfl⟩
theorem cv_X0_76 : j_cv RX0 76 mX0_timing 2 := ⟨wd_48, wd_49, wd_50, wd_47, wd_46, by decide, by decide, by decide +kernel⟩
theorem cv_X0_80 : j_cv RX0 80 mX8_leastOfEnds 0 := ⟨wd_52, wd_53, wd_54, wd_23, wd_51, by decide, by decide, by decide +kernel⟩
theorem csn_X0_84 : j_csn RX0 84 mX9_smaller 2 RX9 := ⟨(by decide +kernel), wd_57, wd_56, wd_55, by decide, by decide, by decide +kernel⟩
theorem fo_X0_88 : j_fo RX0 88 1 6 := ⟨RX1, TX1, 8, rfl, by decide, wi_1, wd_58, rfl⟩
theorem fo_X0_91 : j_fo RX0 91 1 2 := ⟨RX1, TX1, 8, rfl, by decide, wi_1, wd_59, rfl⟩
theorem cv_X0_95 : j_cv RX0 95 mX5_isEndKind 0 := ⟨wd_62, wd_63, wd_64, wd_61, wd_60, by decide, by decide, by decide +kernel⟩
theorem cv_X0_101 : j_cv RX0 101 mX8_leastAt 1 := ⟨wd_66, wd_67, wd_68, wd_23, wd_65, by decide, by decide, by decide +kernel⟩
theorem fo_X0_105 : j_fo RX0 105 5 5 := ⟨RX5, TX5, 8, rfl, by decide, wi_5, wd_69, rfl⟩
theorem fp_X0_105 : j_fp RX0 105 5 5 .int := ⟨RX5, TX5, 8, tyX5, rfl, by decide, wi_5, wd_69, rfl, tyX5_ok, nmX5, rfl, Or.inl rfl⟩
theorem cv_X0_108 : j_cv RX0 108 mX4_reckon 0 := ⟨wd_71, wd_72, wd_73, wd_16, wd_70, by decide, by decide, by decide +kernel⟩
theorem fo_X0_46 : j_fo RX0 46 0 6 := ⟨RX0, TX0, 7, rfl, by decide, wi_0, wd_27, rfl⟩
theorem cv_X0_110 : j_cv RX0 110 mX0_leastOfAll 1 := ⟨wd_75, wd_76, wd_77, wd_47, wd_74, by decide, by decide, by decide +kernel⟩
theorem cv_X0_114 : j_cv RX0 114 mX0_leastWith 2 := ⟨wd_79, wd_80, wd_81, wd_47, wd_78, by decide, by decide, by decide +kernel⟩
theorem fp_X1_11 : j_fp RX1 11 1 0 (.array (.object "SlackHall$Clock")) := ⟨RX1, TX1, 8, tyX1, rfl, by decide, wi_1, wd_84, rfl, tyX1_ok, nmX1, rfl, Or.inr ⟨rfl, rfl⟩⟩
theorem fp_X1_19 : j_fp RX1 19 1 1 (.array (.object "SlackHall$Corner")) := ⟨RX1, TX1, 8, tyX1, rfl, by decide, wi_1, wd_86, rfl, tyX1_ok, nmX1, rfl, Or.inr ⟨rfl, rfl⟩⟩
theorem fp_X1_25 : j_fp RX1 25 1 2 (.array (.object "SlackHall$Node")) := ⟨RX1, TX1, 8, tyX1, rfl, by decide, wi_1, wd_88, rfl, tyX1_ok, nmX1, rfl, Or.inr ⟨rfl, rfl⟩⟩
theorem fp_X1_31 : j_fp RX1 31 1 3 (.array (.object "SlackHall$Rule")) := ⟨RX1, TX1, 8, tyX1, rfl, by decide, wi_1, wd_90, rfl, tyX1_ok, nmX1, rfl, Or.inr ⟨rfl, rfl⟩⟩
theorem fp_X1_35 : j_fp RX1 35 1 5 .int := ⟨RX1, TX1, 8, tyX1, rfl, by decide, wi_1, wd_91, rfl, tyX1_ok, nmX1, rfl, Or.inl rfl⟩
theorem fo_X1_11 : j_fo RX1 11 1 0 := ⟨RX1, TX1, 8, rfl, by decide, wi_1, wd_84, rfl⟩
theorem no_X1_9 : j_no RX1 9 2 [.int 0, .int 0, .int 0, .int 0, .int 0] := ⟨RX2, TX2, 5, tyX2, rfl, wi_2, tyX2_ok, wd_83, wd_92, wd_93, by intro j hj; match j, hj with | 0, _ => rfl | 1, _ => rfl | 2, _ => rfl | 3, _ => rfl | 4, _ => rfl, fun _ => rfl, rfl⟩
theorem cin_X1_39 : j_cin RX1 39 mX2_init 0 RX9 := ⟨(by decide +kernel), wd_95, wd_93, wd_94, by decide, by decide, by decide +kernel, rfl, rfl⟩
theorem fo_X1_19 : j_fo RX1 19 1 1 := ⟨RX1, TX1, 8, rfl, by decide, wi_1, wd_86, rfl⟩
theorem no_X1_17 : j_no RX1 17 3 [.double 0, .double 0] := ⟨RX3, TX3, 2, tyX3, rfl, wi_3, tyX3_ok, wd_85, wd_96, wd_97, by intro j hj; match j, hj with | 0, _ => rfl | 1, _ => rfl, fun _ => rfl, rfl⟩
theorem cin_X1_40 : j_cin RX1 40 mX3_init 0 RX9 := ⟨(by decide +kernel), wd_99, wd_97, wd_98, by decide, by decide, by decide +kernel, rfl, rfl⟩
theorem fo_X1_25 : j_fo RX1 25 1 2 := ⟨RX1, TX1, 8, rfl, by decide, wi_1, wd_88, rfl⟩
theorem no_X1_23 : j_no RX1 23 5 [.int 0, .int 0, .int 0, .int 0, .null, .int 0, .float 0, .int 0] := ⟨RX5, TX5, 8, tyX5, rfl, wi_5, tyX5_ok, wd_87, wd_100, wd_61, by intro j hj; match j, hj with | 0, _ => rfl | 1, _ => rfl | 2, _ => rfl | 3, _ => rfl | 4, _ => rfl | 5, _ => rfl | 6, _ => rfl | 7, _ => rfl, fun _ => rfl, rfl⟩
theorem ci_X1_41 : j_ci RX1 41 mX5_init 1 := ⟨wd_102, wd_103, wd_61, wd_101, by decide, by decide, by decide +kernel, rfl, rfl⟩
theorem fo_X1_31 : j_fo RX1 31 1 3 := ⟨RX1, TX1, 8, rfl, by decide, wi_1, wd_90, rfl⟩
theorem no_X1_29 : j_no RX1 29 7 [.int 0, .int 0, .int 0] := ⟨RX7, TX7, 3, tyX7, rfl, wi_7, tyX7_ok, wd_89, wd_104, wd_105, by intro j hj; match j, hj with | 0, _ => rfl | 1, _ => rfl | 2, _ => rfl, fun _ => rfl, rfl⟩
theorem cin_X1_44 : j_cin RX1 44 mX7_init 0 RX9 := ⟨(by decide +kernel), wd_107, wd_105, wd_106, by decide, by decide, by decide +kernel, rfl, rfl⟩
theorem fo_X1_45 : j_fo RX1 45 1 4 := ⟨RX1, TX1, 8, rfl, by decide, wi_1, wd_108, rfl⟩
theorem fo_X1_35 : j_fo RX1 35 1 5 := ⟨RX1, TX1, 8, rfl, by decide, wi_1, wd_91, rfl⟩
theorem fo_X1_48 : j_fo RX1 48 1 6 := ⟨RX1, TX1, 8, rfl, by decide, wi_1, wd_109, rfl⟩
theorem fp_X1_51 : j_fp RX1 51 2 0 .int := ⟨RX2, TX2, 5, tyX2, rfl, by decide, wi_2, wd_110, rfl, tyX2_ok, nmX2, rfl, Or.inl rfl⟩
theorem fp_X1_54 : j_fp RX1 54 2 1 .int := ⟨RX2, TX2, 5, tyX2, rfl, by decide, wi_2, wd_111, rfl, tyX2_ok, nmX2, rfl, Or.inl rfl⟩
theorem fp_X1_57 : j_fp RX1 57 2 2 .int := ⟨RX2, TX2, 5, tyX2, rfl, by decide, wi_2, wd_112, rfl, tyX2_ok, nmX2, rfl, Or.inl rfl⟩
theorem fp_X1_60 : j_fp RX1 60 2 3 .int := ⟨RX2, TX2, 5, tyX2, rfl, by decide, wi_2, wd_113, rfl, tyX2_ok, nmX2, rfl, Or.inl rfl⟩
theorem fp_X1_63 : j_fp RX1 63 2 4 .int := ⟨RX2, TX2, 5, tyX2, rfl, by decide, wi_2, wd_114, rfl, tyX2_ok, nmX2, rfl, Or.inl rfl⟩
theorem fp_X1_45 : j_fp RX1 45 1 4 .int := ⟨RX1, TX1, 8, tyX1, rfl, by decide, wi_1, wd_108, rfl, tyX1_ok, nmX1, rfl, Or.inl rfl⟩
theorem fp_X1_68 : j_fp RX1 68 3 0 .double := ⟨RX3, TX3, 2, tyX3, rfl, by decide, wi_3, wd_116, rfl, tyX3_ok, nmX3, rfl, Or.inl rfl⟩
theorem fp_X1_72 : j_fp RX1 72 3 1 .double := ⟨RX3, TX3, 2, tyX3, rfl, by decide, wi_3, wd_117, rfl, tyX3_ok, nmX3, rfl, Or.inl rfl⟩
theorem fp_X1_75 : j_fp RX1 75 5 0 .int := ⟨RX5, TX5, 8, tyX5, rfl, by decide, wi_5, wd_118, rfl, tyX5_ok, nmX5, rfl, Or.inl rfl⟩
theorem fp_X1_78 : j_fp RX1 78 5 1 .int := ⟨RX5, TX5, 8, tyX5, rfl, by decide, wi_5, wd_119, rfl, tyX5_ok, nmX5, rfl, Or.inl rfl⟩
theorem fp_X1_81 : j_fp RX1 81 5 2 .int := ⟨RX5, TX5, 8, tyX5, rfl, by decide, wi_5, wd_120, rfl, tyX5_ok, nmX5, rfl, Or.inl rfl⟩
theorem fp_X1_84 : j_fp RX1 84 5 3 .int := ⟨RX5, TX5, 8, tyX5, rfl, by decide, wi_5, wd_121, rfl, tyX5_ok, nmX5, rfl, Or.inl rfl⟩
theorem cv_X1_87 : j_cv RX1 87 mX1_hasClock 1 := ⟨wd_124, wd_125, wd_126, wd_123, wd_122, by decide, by decide, by decide +kernel⟩
theorem fp_X1_91 : j_fp RX1 91 5 4 (.object "SlackHall$Clock") := ⟨RX5, TX5, 8, tyX5, rfl, by decide, wi_5, wd_127, rfl, tyX5_ok, nmX5, rfl, Or.inl rfl⟩
theorem fp_X1_48 : j_fp RX1 48 1 6 .int := ⟨RX1, TX1, 8, tyX1, rfl, by decide, wi_1, wd_109, rfl, tyX1_ok, nmX1, rfl, Or.inl rfl⟩
theorem fo_X1_95 : j_fo RX1 95 1 7 := ⟨RX1, TX1, 8, rfl, by decide, wi_1, wd_128, rfl⟩
theorem fp_X1_98 : j_fp RX1 98 7 0 .int := ⟨RX7, TX7, 3, tyX7, rfl, by decide, wi_7, wd_129, rfl, tyX7_ok, nmX7, rfl, Or.inl rfl⟩
theorem fp_X1_101 : j_fp RX1 101 7 1 .int := ⟨RX7, TX7, 3, tyX7, rfl, by decide, wi_7, wd_130, rfl, tyX7_ok, nmX7, rfl, Or.inl rfl⟩
theorem fp_X1_104 : j_fp RX1 104 7 2 .int := ⟨RX7, TX7, 3, tyX7, rfl, by decide, wi_7, wd_131, rfl, tyX7_ok, nmX7, rfl, Or.inl rfl⟩
theorem fp_X1_95 : j_fp RX1 95 1 7 .int := ⟨RX1, TX1, 8, tyX1, rfl, by decide, wi_1, wd_128, rfl, tyX1_ok, nmX1, rfl, Or.inl rfl⟩
theorem fo_X1_78 : j_fo RX1 78 5 1 := ⟨RX5, TX5, 8, rfl, by decide, wi_5, wd_119, rfl⟩
theorem fo_X1_81 : j_fo RX1 81 5 2 := ⟨RX5, TX5, 8, rfl, by decide, wi_5, wd_120, rfl⟩
theorem cv_X1_107 : j_cv RX1 107 mX7_fits 2 := ⟨wd_133, wd_134, wd_135, wd_105, wd_132, by decide, by decide, by decide +kernel⟩
theorem cv_X1_111 : j_cv RX1 111 mX7_weight 0 := ⟨wd_137, wd_138, wd_139, wd_105, wd_136, by decide, by decide, by decide +kernel⟩
theorem fo_X1_91 : j_fo RX1 91 5 4 := ⟨RX5, TX5, 8, rfl, by decide, wi_5, wd_127, rfl⟩
theorem fo_X1_60 : j_fo RX1 60 2 3 := ⟨RX2, TX2, 5, rfl, by decide, wi_2, wd_113, rfl⟩
theorem fo_X1_51 : j_fo RX1 51 2 0 := ⟨RX2, TX2, 5, rfl, by decide, wi_2, wd_110, rfl⟩
theorem cs_X1_115 : j_cs RX1 115 mX1_greatestDivisor 2 := ⟨wd_141, wd_142, wd_123, wd_140, by decide, by decide, by decide +kernel⟩
theorem fo_X2_7 : j_fo RX2 7 2 0 := ⟨RX2, TX2, 5, rfl, by decide, wi_2, wd_144, rfl⟩
theorem fo_X2_13 : j_fo RX2 13 2 1 := ⟨RX2, TX2, 5, rfl, by decide, wi_2, wd_145, rfl⟩
theorem fo_X2_16 : j_fo RX2 16 2 2 := ⟨RX2, TX2, 5, rfl, by decide, wi_2, wd_146, rfl⟩
theorem fo_X2_19 : j_fo RX2 19 2 3 := ⟨RX2, TX2, 5, rfl, by decide, wi_2, wd_147, rfl⟩
theorem fo_X2_22 : j_fo RX2 22 2 4 := ⟨RX2, TX2, 5, rfl, by decide, wi_2, wd_148, rfl⟩
theorem fp_X3_7 : j_fp RX3 7 3 0 .double := ⟨RX3, TX3, 2, tyX3, rfl, by decide, wi_3, wd_150, rfl, tyX3_ok, nmX3, rfl, Or.inl rfl⟩
theorem fp_X3_13 : j_fp RX3 13 3 1 .double := ⟨RX3, TX3, 2, tyX3, rfl, by decide, wi_3, wd_151, rfl, tyX3_ok, nmX3, rfl, Or.inl rfl⟩
theorem fp_X4_9 : j_fp RX4 9 4 1 (.array .float) := ⟨RX4, TX4, 4, tyX4, rfl, by decide, wi_4, wd_154, rfl, tyX4_ok, nmX4, rfl, Or.inr ⟨rfl, rfl⟩⟩
theorem fp_X4_15 : j_fp RX4 15 4 2 (.array .double) := ⟨RX4, TX4, 4, tyX4, rfl, by decide, wi_4, wd_156, rfl, tyX4_ok, nmX4, rfl, Or.inr ⟨rfl, rfl⟩⟩
theorem fp_X4_19 : j_fp RX4 19 4 0 (.object "SlackHall$Chip") := ⟨RX4, TX4, 4, tyX4, rfl, by decide, wi_4, wd_157, rfl, tyX4_ok, nmX4, rfl, Or.inr ⟨rfl, rfl⟩⟩
theorem fo_X4_23 : j_fo RX4 23 4 3 := ⟨RX4, TX4, 4, rfl, by decide, wi_4, wd_158, rfl⟩
theorem cv_X4_27 : j_cv RX4 27 mX4_reckon 0 := ⟨wd_159, wd_72, wd_73, wd_16, wd_70, by decide, by decide, by decide +kernel⟩
theorem fp_X4_23 : j_fp RX4 23 4 3 .boolean := ⟨RX4, TX4, 4, tyX4, rfl, by decide, wi_4, wd_158, rfl, tyX4_ok, nmX4, rfl, Or.inl rfl⟩
theorem fo_X4_19 : j_fo RX4 19 4 0 := ⟨RX4, TX4, 4, rfl, by decide, wi_4, wd_157, rfl⟩
theorem fo_X4_30 : j_fo RX4 30 1 6 := ⟨RX1, TX1, 8, rfl, by decide, wi_1, wd_160, rfl⟩
theorem fo_X4_9 : j_fo RX4 9 4 1 := ⟨RX4, TX4, 4, rfl, by decide, wi_4, wd_154, rfl⟩
theorem fo_X4_36 : j_fo RX4 36 1 2 := ⟨RX1, TX1, 8, rfl, by decide, wi_1, wd_161, rfl⟩
theorem fo_X4_40 : j_fo RX4 40 5 6 := ⟨RX5, TX5, 8, rfl, by decide, wi_5, wd_162, rfl⟩
theorem fo_X4_46 : j_fo RX4 46 5 0 := ⟨RX5, TX5, 8, rfl, by decide, wi_5, wd_163, rfl⟩
theorem fo_X4_50 : j_fo RX4 50 5 5 := ⟨RX5, TX5, 8, rfl, by decide, wi_5, wd_165, rfl⟩
theorem fo_X4_53 : j_fo RX4 53 5 1 := ⟨RX5, TX5, 8, rfl, by decide, wi_5, wd_166, rfl⟩
theorem cv_X4_56 : j_cv RX4 56 mX4_burden 2 := ⟨wd_168, wd_169, wd_170, wd_16, wd_167, by decide, by decide, by decide +kernel⟩
theorem fo_X4_60 : j_fo RX4 60 5 2 := ⟨RX5, TX5, 8, rfl, by decide, wi_5, wd_171, rfl⟩
theorem fo_X4_15 : j_fo RX4 15 4 2 := ⟨RX4, TX4, 4, rfl, by decide, wi_4, wd_156, rfl⟩
theorem cs_X4_63 : j_cs RX4 63 mX4_riseOf 2 := ⟨wd_173, wd_174, wd_16, wd_172, by decide, by decide, by decide +kernel⟩
theorem cv_X4_67 : j_cv RX4 67 mX1_hasNode 1 := ⟨wd_176, wd_177, wd_178, wd_123, wd_175, by decide, by decide, by decide +kernel⟩
theorem csn_X4_71 : j_csn RX4 71 mX9_isSize 1 RX9 := ⟨(by decide +kernel), wd_180, wd_56, wd_179, by decide, by decide, by decide +kernel⟩
theorem cs_X4_74 : j_cs RX4 74 mX4_unsized 1 := ⟨wd_182, wd_183, wd_16, wd_181, by decide, by decide, by decide +kernel⟩
theorem cv_X4_78 : j_cv RX4 78 mX5_isGate 0 := ⟨wd_185, wd_186, wd_187, wd_61, wd_184, by decide, by decide, by decide +kernel⟩
theorem fp_X5_9 : j_fp RX5 9 5 1 .int := ⟨RX5, TX5, 8, tyX5, rfl, by decide, wi_5, wd_199, rfl, tyX5_ok, nmX5, rfl, Or.inl rfl⟩
theorem fp_X5_15 : j_fp RX5 15 5 2 .int := ⟨RX5, TX5, 8, tyX5, rfl, by decide, wi_5, wd_200, rfl, tyX5_ok, nmX5, rfl, Or.inl rfl⟩
theorem fp_X5_18 : j_fp RX5 18 5 3 .int := ⟨RX5, TX5, 8, tyX5, rfl, by decide, wi_5, wd_201, rfl, tyX5_ok, nmX5, rfl, Or.inl rfl⟩
theorem fp_X5_21 : j_fp RX5 21 5 5 .int := ⟨RX5, TX5, 8, tyX5, rfl, by decide, wi_5, wd_202, rfl, tyX5_ok, nmX5, rfl, Or.inl rfl⟩
theorem fp_X5_24 : j_fp RX5 24 5 6 .float := ⟨RX5, TX5, 8, tyX5, rfl, by decide, wi_5, wd_203, rfl, tyX5_ok, nmX5, rfl, Or.inl rfl⟩
theorem fp_X5_28 : j_fp RX5 28 5 4 (.object "SlackHall$Clock") := ⟨RX5, TX5, 8, tyX5, rfl, by decide, wi_5, wd_204, rfl, tyX5_ok, nmX5, rfl, Or.inl rfl⟩
theorem fo_X5_32 : j_fo RX5 32 5 0 := ⟨RX5, TX5, 8, rfl, by decide, wi_5, wd_205, rfl⟩
theorem fo_X5_28 : j_fo RX5 28 5 4 := ⟨RX5, TX5, 8, rfl, by decide, wi_5, wd_204, rfl⟩
theorem fo_X5_35 : j_fo RX5 35 2 1 := ⟨RX2, TX2, 5, rfl, by decide, wi_2, wd_206, rfl⟩
theorem fo_X5_40 : j_fo RX5 40 5 7 := ⟨RX5, TX5, 8, rfl, by decide, wi_5, wd_207, rfl⟩
theorem fo_X5_9 : j_fo RX5 9 5 1 := ⟨RX5, TX5, 8, rfl, by decide, wi_5, wd_199, rfl⟩
theorem fo_X5_15 : j_fo RX5 15 5 2 := ⟨RX5, TX5, 8, rfl, by decide, wi_5, wd_200, rfl⟩
theorem fo_X5_18 : j_fo RX5 18 5 3 := ⟨RX5, TX5, 8, rfl, by decide, wi_5, wd_201, rfl⟩
theorem fo_X5_21 : j_fo RX5 21 5 5 := ⟨RX5, TX5, 8, rfl, by decide, wi_5, wd_202, rfl⟩
theorem fp_X6_9 : j_fp RX6 9 6 1 (.array .int) := ⟨RX6, TX6, 6, tyX6, rfl, by decide, wi_6, wd_211, rfl, tyX6_ok, nmX6, rfl, Or.inr ⟨rfl, rfl⟩⟩
theorem fp_X6_15 : j_fp RX6 15 6 2 (.array .int) := ⟨RX6, TX6, 6, tyX6, rfl, by decide, wi_6, wd_212, rfl, tyX6_ok, nmX6, rfl, Or.inr ⟨rfl, rfl⟩⟩
theorem fp_X6_18 : j_fp RX6 18 6 3 (.array .int) := ⟨RX6, TX6, 6, tyX6, rfl, by decide, wi_6, wd_213, rfl, tyX6_ok, nmX6, rfl, Or.inr ⟨rfl, rfl⟩⟩
theorem fp_X6_21 : j_fp RX6 21 6 4 (.array .int) := ⟨RX6, TX6, 6, tyX6, rfl, by decide, wi_6, wd_214, rfl, tyX6_ok, nmX6, rfl, Or.inr ⟨rfl, rfl⟩⟩
theorem fp_X6_24 : j_fp RX6 24 6 0 (.object "SlackHall$Chip") := ⟨RX6, TX6, 6, tyX6, rfl, by decide, wi_6, wd_215, rfl, tyX6_ok, nmX6, rfl, Or.inr ⟨rfl, rfl⟩⟩
theorem fo_X6_28 : j_fo RX6 28 6 5 := ⟨RX6, TX6, 6, rfl, by decide, wi_6, wd_216, rfl⟩
theorem fo_X6_24 : j_fo RX6 24 6 0 := ⟨RX6, TX6, 6, rfl, by decide, wi_6, wd_215, rfl⟩
theorem fo_X6_32 : j_fo RX6 32 1 6 := ⟨RX1, TX1, 8, rfl, by decide, wi_1, wd_217, rfl⟩
theorem fo_X6_38 : j_fo RX6 38 1 2 := ⟨RX1, TX1, 8, rfl, by decide, wi_1, wd_218, rfl⟩
theorem fo_X6_18 : j_fo RX6 18 6 3 := ⟨RX6, TX6, 6, rfl, by decide, wi_6, wd_213, rfl⟩
theorem fo_X6_9 : j_fo RX6 9 6 1 := ⟨RX6, TX6, 6, rfl, by decide, wi_6, wd_211, rfl⟩
theorem cv_X6_42 : j_cv RX6 42 mX5_isStart 0 := ⟨wd_220, wd_221, wd_222, wd_61, wd_219, by decide, by decide, by decide +kernel⟩
theorem cv_X6_48 : j_cv RX6 48 mX5_isGate 0 := ⟨wd_223, wd_186, wd_187, wd_61, wd_184, by decide, by decide, by decide +kernel⟩
theorem fo_X6_51 : j_fo RX6 51 5 1 := ⟨RX5, TX5, 8, rfl, by decide, wi_5, wd_224, rfl⟩
theorem cv_X6_54 : j_cv RX6 54 mX6_join 2 := ⟨wd_226, wd_227, wd_228, wd_9, wd_225, by decide, by decide, by decide +kernel⟩
theorem fo_X6_58 : j_fo RX6 58 5 2 := ⟨RX5, TX5, 8, rfl, by decide, wi_5, wd_229, rfl⟩
theorem cv_X6_61 : j_cv RX6 61 mX6_check 1 := ⟨wd_231, wd_232, wd_233, wd_9, wd_230, by decide, by decide, by decide +kernel⟩
theorem fp_X6_28 : j_fp RX6 28 6 5 .boolean := ⟨RX6, TX6, 6, tyX6, rfl, by decide, wi_6, wd_216, rfl, tyX6_ok, nmX6, rfl, Or.inl rfl⟩
theorem cv_X6_65 : j_cv RX6 65 mX1_hasNode 1 := ⟨wd_234, wd_177, wd_178, wd_123, wd_175, by decide, by decide, by decide +kernel⟩
theorem fo_X6_15 : j_fo RX6 15 6 2 := ⟨RX6, TX6, 6, rfl, by decide, wi_6, wd_212, rfl⟩
theorem cv_X6_69 : j_cv RX6 69 mX6_comesTo 2 := ⟨wd_236, wd_237, wd_238, wd_9, wd_235, by decide, by decide, by decide +kernel⟩
theorem cv_X6_73 : j_cv RX6 73 mX1_isOneGroup 2 := ⟨wd_240, wd_241, wd_242, wd_123, wd_239, by decide, by decide, by decide +kernel⟩
theorem cv_X6_76 : j_cv RX6 76 mX1_winnerOf 2 := ⟨wd_244, wd_245, wd_246, wd_123, wd_243, by decide, by decide, by decide +kernel⟩
theorem fo_X6_80 : j_fo RX6 80 1 3 := ⟨RX1, TX1, 8, rfl, by decide, wi_1, wd_247, rfl⟩
theorem fo_X6_84 : j_fo RX6 84 7 0 := ⟨RX7, TX7, 3, rfl, by decide, wi_7, wd_248, rfl⟩
theorem fo_X6_21 : j_fo RX6 21 6 4 := ⟨RX6, TX6, 6, rfl, by decide, wi_6, wd_214, rfl⟩
theorem cv_X6_89 : j_cv RX6 89 mX1_gapOf 3 := ⟨wd_250, wd_251, wd_252, wd_123, wd_249, by decide, by decide, by decide +kernel⟩
theorem cv_X6_93 : j_cv RX6 93 mX5_isEndKind 0 := ⟨wd_253, wd_63, wd_64, wd_61, wd_60, by decide, by decide, by decide +kernel⟩
theorem cv_X6_96 : j_cv RX6 96 mX6_reaches 2 := ⟨wd_255, wd_256, wd_257, wd_9, wd_254, by decide, by decide, by decide +kernel⟩
theorem cs_X6_99 : j_cs RX6 99 mJ6_bitCount_0f7a4 1 := ⟨wd_260, wd_261, wd_259, wd_258, by decide, by decide, by decide +kernel⟩
theorem cv_X6_105 : j_cv RX6 105 mX6_isSafe 2 := ⟨wd_263, wd_264, wd_265, wd_9, wd_262, by decide, by decide, by decide +kernel⟩
theorem fo_X6_108 : j_fo RX6 108 5 0 := ⟨RX5, TX5, 8, rfl, by decide, wi_5, wd_266, rfl⟩
theorem fp_X7_9 : j_fp RX7 9 7 1 .int := ⟨RX7, TX7, 3, tyX7, rfl, by decide, wi_7, wd_268, rfl, tyX7_ok, nmX7, rfl, Or.inl rfl⟩
theorem fp_X7_15 : j_fp RX7 15 7 2 .int := ⟨RX7, TX7, 3, tyX7, rfl, by decide, wi_7, wd_269, rfl, tyX7_ok, nmX7, rfl, Or.inl rfl⟩
theorem fo_X7_9 : j_fo RX7 9 7 1 := ⟨RX7, TX7, 3, rfl, by decide, wi_7, wd_268, rfl⟩
theorem fo_X7_15 : j_fo RX7 15 7 2 := ⟨RX7, TX7, 3, rfl, by decide, wi_7, wd_269, rfl⟩
theorem fo_X7_18 : j_fo RX7 18 7 0 := ⟨RX7, TX7, 3, rfl, by decide, wi_7, wd_270, rfl⟩
theorem fp_X8_9 : j_fp RX8 9 8 4 (.array .double) := ⟨RX8, TX8, 9, tyX8, rfl, by decide, wi_8, wd_272, rfl, tyX8_ok, nmX8, rfl, Or.inr ⟨rfl, rfl⟩⟩
theorem fp_X8_15 : j_fp RX8 15 8 5 (.array .double) := ⟨RX8, TX8, 9, tyX8, rfl, by decide, wi_8, wd_273, rfl, tyX8_ok, nmX8, rfl, Or.inr ⟨rfl, rfl⟩⟩
theorem fp_X8_18 : j_fp RX8 18 8 6 (.array .double) := ⟨RX8, TX8, 9, tyX8, rfl, by decide, wi_8, wd_274, rfl, tyX8_ok, nmX8, rfl, Or.inr ⟨rfl, rfl⟩⟩
theorem fp_X8_21 : j_fp RX8 21 8 7 (.array .double) := ⟨RX8, TX8, 9, tyX8, rfl, by decide, wi_8, wd_275, rfl, tyX8_ok, nmX8, rfl, Or.inr ⟨rfl, rfl⟩⟩
theorem fp_X8_24 : j_fp RX8 24 8 0 (.object "SlackHall$Chip") := ⟨RX8, TX8, 9, tyX8, rfl, by decide, wi_8, wd_276, rfl, tyX8_ok, nmX8, rfl, Or.inr ⟨rfl, rfl⟩⟩
theorem fp_X8_28 : j_fp RX8 28 8 1 (.object "SlackHall$Paths") := ⟨RX8, TX8, 9, tyX8, rfl, by decide, wi_8, wd_277, rfl, tyX8_ok, nmX8, rfl, Or.inr ⟨rfl, rfl⟩⟩
theorem fp_X8_32 : j_fp RX8 32 8 2 (.object "SlackHall$Delays") := ⟨RX8, TX8, 9, tyX8, rfl, by decide, wi_8, wd_278, rfl, tyX8_ok, nmX8, rfl, Or.inr ⟨rfl, rfl⟩⟩
theorem fp_X8_36 : j_fp RX8 36 8 3 .boolean := ⟨RX8, TX8, 9, tyX8, rfl, by decide, wi_8, wd_279, rfl, tyX8_ok, nmX8, rfl, Or.inr ⟨rfl, rfl⟩⟩
theorem fo_X8_24 : j_fo RX8 24 8 0 := ⟨RX8, TX8, 9, rfl, by decide, wi_8, wd_276, rfl⟩
theorem fo_X8_40 : j_fo RX8 40 1 6 := ⟨RX1, TX1, 8, rfl, by decide, wi_1, wd_280, rfl⟩
theorem fo_X8_46 : j_fo RX8 46 1 2 := ⟨RX1, TX1, 8, rfl, by decide, wi_1, wd_281, rfl⟩
theorem fo_X8_21 : j_fo RX8 21 8 7 := ⟨RX8, TX8, 9, rfl, by decide, wi_8, wd_275, rfl⟩
theorem fo_X8_50 : j_fo RX8 50 5 0 := ⟨RX5, TX5, 8, rfl, by decide, wi_5, wd_282, rfl⟩
theorem cv_X8_55 : j_cv RX8 55 mX8_settle 2 := ⟨wd_284, wd_285, wd_286, wd_23, wd_283, by decide, by decide, by decide +kernel⟩
theorem cv_X8_59 : j_cv RX8 59 mX5_isStart 0 := ⟨wd_287, wd_221, wd_222, wd_61, wd_219, by decide, by decide, by decide +kernel⟩
theorem cv_X8_63 : j_cv RX8 63 mX8_depart 2 := ⟨wd_289, wd_290, wd_291, wd_23, wd_288, by decide, by decide, by decide +kernel⟩
theorem cv_X8_66 : j_cv RX8 66 mX5_isGate 0 := ⟨wd_292, wd_186, wd_187, wd_61, wd_184, by decide, by decide, by decide +kernel⟩
theorem cv_X8_69 : j_cv RX8 69 mX8_pass 2 := ⟨wd_294, wd_295, wd_296, wd_23, wd_293, by decide, by decide, by decide +kernel⟩
theorem fp_X8_72 : j_fp RX8 72 8 8 .boolean := ⟨RX8, TX8, 9, tyX8, rfl, by decide, wi_8, wd_297, rfl, tyX8_ok, nmX8, rfl, Or.inl rfl⟩
theorem fo_X8_36 : j_fo RX8 36 8 3 := ⟨RX8, TX8, 9, rfl, by decide, wi_8, wd_279, rfl⟩
theorem fo_X8_75 : j_fo RX8 75 3 0 := ⟨RX3, TX3, 2, rfl, by decide, wi_3, wd_298, rfl⟩
theorem fo_X8_81 : j_fo RX8 81 3 1 := ⟨RX3, TX3, 2, rfl, by decide, wi_3, wd_299, rfl⟩
theorem fo_X8_32 : j_fo RX8 32 8 2 := ⟨RX8, TX8, 9, rfl, by decide, wi_8, wd_278, rfl⟩
theorem cv_X8_84 : j_cv RX8 84 mX4_ofEdge 2 := ⟨wd_301, wd_302, wd_303, wd_16, wd_300, by decide, by decide, by decide +kernel⟩
theorem fo_X8_9 : j_fo RX8 9 8 4 := ⟨RX8, TX8, 9, rfl, by decide, wi_8, wd_272, rfl⟩
theorem cv_X8_90 : j_cv RX8 90 mX8_delayOf 3 := ⟨wd_305, wd_306, wd_307, wd_23, wd_304, by decide, by decide, by decide +kernel⟩
theorem fo_X8_28 : j_fo RX8 28 8 1 := ⟨RX8, TX8, 9, rfl, by decide, wi_8, wd_277, rfl⟩
theorem cv_X8_94 : j_cv RX8 94 mX6_reaches 2 := ⟨wd_308, wd_256, wd_257, wd_9, wd_254, by decide, by decide, by decide +kernel⟩
theorem cv_X8_100 : j_cv RX8 100 mX8_sourceOf 2 := ⟨wd_310, wd_311, wd_312, wd_23, wd_309, by decide, by decide, by decide +kernel⟩
theorem fo_X8_104 : j_fo RX8 104 5 1 := ⟨RX5, TX5, 8, rfl, by decide, wi_5, wd_313, rfl⟩
theorem fo_X8_107 : j_fo RX8 107 5 2 := ⟨RX5, TX5, 8, rfl, by decide, wi_5, wd_314, rfl⟩
theorem cv_X8_110 : j_cv RX8 110 mX5_makes 2 := ⟨wd_316, wd_317, wd_318, wd_61, wd_315, by decide, by decide, by decide +kernel⟩
theorem cv_X8_113 : j_cv RX8 113 mX8_beats 3 := ⟨wd_320, wd_321, wd_322, wd_23, wd_319, by decide, by decide, by decide +kernel⟩
theorem cv_X8_117 : j_cv RX8 117 mX6_isChecked 2 := ⟨wd_324, wd_325, wd_326, wd_9, wd_323, by decide, by decide, by decide +kernel⟩
theorem fo_X8_15 : j_fo RX8 15 8 5 := ⟨RX8, TX8, 9, rfl, by decide, wi_8, wd_273, rfl⟩
theorem cv_X8_120 : j_cv RX8 120 mX8_leftForLate 3 := ⟨wd_328, wd_329, wd_330, wd_23, wd_327, by decide, by decide, by decide +kernel⟩
theorem cv_X8_123 : j_cv RX8 123 mX8_leftForEarly 3 := ⟨wd_332, wd_333, wd_334, wd_23, wd_331, by decide, by decide, by decide +kernel⟩
theorem cv_X8_126 : j_cv RX8 126 mX8_lend 1 := ⟨wd_336, wd_337, wd_338, wd_23, wd_335, by decide, by decide, by decide +kernel⟩
theorem fo_X8_18 : j_fo RX8 18 8 6 := ⟨RX8, TX8, 9, rfl, by decide, wi_8, wd_274, rfl⟩
theorem cv_X8_132 : j_cv RX8 132 mX8_leftOf 2 := ⟨wd_341, wd_342, wd_343, wd_23, wd_340, by decide, by decide, by decide +kernel⟩
theorem csn_X8_135 : j_csn RX8 135 mX9_smaller 2 RX9 := ⟨(by decide +kernel), wd_57, wd_56, wd_55, by decide, by decide, by decide +kernel⟩
theorem cv_X8_139 : j_cv RX8 139 mX6_gapBetween 2 := ⟨wd_345, wd_346, wd_347, wd_9, wd_344, by decide, by decide, by decide +kernel⟩
theorem fo_X8_142 : j_fo RX8 142 5 4 := ⟨RX5, TX5, 8, rfl, by decide, wi_5, wd_348, rfl⟩
theorem fo_X8_146 : j_fo RX8 146 2 2 := ⟨RX2, TX2, 5, rfl, by decide, wi_2, wd_349, rfl⟩
theorem cv_X8_153 : j_cv RX8 153 mX5_lag 0 := ⟨wd_352, wd_353, wd_354, wd_61, wd_351, by decide, by decide, by decide +kernel⟩
theorem cs_X8_157 : j_cs RX8 157 mX8_credit 3 := ⟨wd_356, wd_357, wd_23, wd_355, by decide, by decide, by decide +kernel⟩
theorem csn_X8_161 : j_csn RX8 161 mX9_greater 2 RX9 := ⟨(by decide +kernel), wd_359, wd_56, wd_358, by decide, by decide, by decide +kernel⟩
theorem fo_X8_166 : j_fo RX8 166 2 4 := ⟨RX2, TX2, 5, rfl, by decide, wi_2, wd_361, rfl⟩
theorem fo_X8_169 : j_fo RX8 169 2 1 := ⟨RX2, TX2, 5, rfl, by decide, wi_2, wd_362, rfl⟩
theorem fo_X8_172 : j_fo RX8 172 2 0 := ⟨RX2, TX2, 5, rfl, by decide, wi_2, wd_363, rfl⟩
theorem cv_X8_177 : j_cv RX8 177 mX6_hasCheck 1 := ⟨wd_366, wd_367, wd_368, wd_9, wd_365, by decide, by decide, by decide +kernel⟩
theorem cv_X8_181 : j_cv RX8 181 mX8_worstStart 1 := ⟨wd_370, wd_371, wd_372, wd_23, wd_369, by decide, by decide, by decide +kernel⟩
theorem cv_X8_185 : j_cv RX8 185 mX8_arrivalOf 3 := ⟨wd_374, wd_375, wd_376, wd_23, wd_373, by decide, by decide, by decide +kernel⟩
theorem no_X9_9 : j_no RX9 9 1 [.null, .null, .null, .null, .int 0, .int 0, .int 0, .int 0] := ⟨RX1, TX1, 8, tyX1, rfl, wi_1, tyX1_ok, wd_378, wd_379, wd_123, by intro j hj; match j, hj with | 0, _ => rfl | 1, _ => rfl | 2, _ => rfl | 3, _ => rfl | 4, _ => rfl | 5, _ => rfl | 6, _ => rfl | 7, _ => rfl, fun _ => rfl, rfl⟩
theorem ci_X9_11 : j_ci RX9 11 mX1_init 0 := ⟨wd_381, wd_382, wd_123, wd_380, by decide, by decide, by decide +kernel, rfl, rfl⟩
theorem fp_X9_12 : j_fp RX9 12 9 0 (.object "SlackHall$Chip") := ⟨RX9, TX9, 4, tyX9, rfl, by decide, wi_9, wd_383, rfl, tyX9_ok, nmX9, rfl, Or.inr ⟨rfl, rfl⟩⟩
theorem no_X9_16 : j_no RX9 16 0 [.null, .null, .null, .null, .null, .null, .null] := ⟨RX0, TX0, 7, tyX0, rfl, wi_0, tyX0_ok, wd_384, wd_385, wd_47, by intro j hj; match j, hj with | 0, _ => rfl | 1, _ => rfl | 2, _ => rfl | 3, _ => rfl | 4, _ => rfl | 5, _ => rfl | 6, _ => rfl, fun _ => rfl, rfl⟩
theorem fo_X9_12 : j_fo RX9 12 9 0 := ⟨RX9, TX9, 4, rfl, by decide, wi_9, wd_383, rfl⟩
theorem ci_X9_18 : j_ci RX9 18 mX0_init 1 := ⟨wd_387, wd_388, wd_47, wd_386, by decide, by decide, by decide +kernel, rfl, rfl⟩
theorem fp_X9_21 : j_fp RX9 21 9 1 (.object "SlackHall$Analysis") := ⟨RX9, TX9, 4, tyX9, rfl, by decide, wi_9, wd_389, rfl, tyX9_ok, nmX9, rfl, Or.inr ⟨rfl, rfl⟩⟩
theorem fo_X9_25 : j_fo RX9 25 1 4 := ⟨RX1, TX1, 8, rfl, by decide, wi_1, wd_390, rfl⟩
theorem cv_X9_29 : j_cv RX9 29 mX9_mustBeOpen 1 := ⟨wd_392, wd_393, wd_394, wd_56, wd_391, by decide, by decide, by decide +kernel⟩
theorem cs_X9_33 : j_cs RX9 33 mX9_isIn 3 := ⟨wd_396, wd_397, wd_56, wd_395, by decide, by decide, by decide +kernel⟩
theorem cs_X9_37 : j_cs RX9 37 mX9_mustFit 1 := ⟨wd_399, wd_400, wd_56, wd_398, by decide, by decide, by decide +kernel⟩
theorem fo_X9_21 : j_fo RX9 21 9 1 := ⟨RX9, TX9, 4, rfl, by decide, wi_9, wd_389, rfl⟩
theorem cv_X9_40 : j_cv RX9 40 mX0_forget 0 := ⟨wd_402, wd_403, wd_404, wd_47, wd_401, by decide, by decide, by decide +kernel⟩
theorem cv_X9_43 : j_cv RX9 43 mX1_addClock 5 := ⟨wd_406, wd_407, wd_408, wd_123, wd_405, by decide, by decide, by decide +kernel⟩
theorem cv_X9_47 : j_cv RX9 47 mX1_hasClock 1 := ⟨wd_409, wd_125, wd_126, wd_123, wd_122, by decide, by decide, by decide +kernel⟩
theorem cs_X9_51 : j_cs RX9 51 mX9_mustExist 1 := ⟨wd_411, wd_412, wd_56, wd_410, by decide, by decide, by decide +kernel⟩
theorem fo_X9_54 : j_fo RX9 54 1 0 := ⟨RX1, TX1, 8, rfl, by decide, wi_1, wd_413, rfl⟩
theorem fo_X9_58 : j_fo RX9 58 2 0 := ⟨RX2, TX2, 5, rfl, by decide, wi_2, wd_414, rfl⟩
theorem fo_X9_63 : j_fo RX9 63 2 1 := ⟨RX2, TX2, 5, rfl, by decide, wi_2, wd_415, rfl⟩
theorem fo_X9_66 : j_fo RX9 66 2 2 := ⟨RX2, TX2, 5, rfl, by decide, wi_2, wd_416, rfl⟩
theorem fo_X9_69 : j_fo RX9 69 2 3 := ⟨RX2, TX2, 5, rfl, by decide, wi_2, wd_417, rfl⟩
theorem fo_X9_72 : j_fo RX9 72 2 4 := ⟨RX2, TX2, 5, rfl, by decide, wi_2, wd_418, rfl⟩
theorem fo_X9_75 : j_fo RX9 75 1 5 := ⟨RX1, TX1, 8, rfl, by decide, wi_1, wd_419, rfl⟩
theorem cv_X9_78 : j_cv RX9 78 mX1_addCorner 2 := ⟨wd_421, wd_422, wd_423, wd_123, wd_420, by decide, by decide, by decide +kernel⟩
theorem fo_X9_82 : j_fo RX9 82 1 6 := ⟨RX1, TX1, 8, rfl, by decide, wi_1, wd_424, rfl⟩
theorem cv_X9_85 : j_cv RX9 85 mX1_hasNode 1 := ⟨wd_425, wd_177, wd_178, wd_123, wd_175, by decide, by decide, by decide +kernel⟩
theorem fo_X9_88 : j_fo RX9 88 1 2 := ⟨RX1, TX1, 8, rfl, by decide, wi_1, wd_426, rfl⟩
theorem fo_X9_92 : j_fo RX9 92 5 0 := ⟨RX5, TX5, 8, rfl, by decide, wi_5, wd_427, rfl⟩
theorem cv_X9_97 : j_cv RX9 97 mX1_addNode 4 := ⟨wd_429, wd_430, wd_431, wd_123, wd_428, by decide, by decide, by decide +kernel⟩
theorem fo_X9_101 : j_fo RX9 101 5 1 := ⟨RX5, TX5, 8, rfl, by decide, wi_5, wd_432, rfl⟩
theorem fp_X9_101 : j_fp RX9 101 5 1 .int := ⟨RX5, TX5, 8, tyX5, rfl, by decide, wi_5, wd_432, rfl, tyX5_ok, nmX5, rfl, Or.inl rfl⟩
theorem cs_X9_104 : j_cs RX9 104 mX9_isSize 1 := ⟨wd_433, wd_180, wd_56, wd_179, by decide, by decide, by decide +kernel⟩
theorem fo_X9_107 : j_fo RX9 107 5 5 := ⟨RX5, TX5, 8, rfl, by decide, wi_5, wd_434, rfl⟩
theorem fp_X9_107 : j_fp RX9 107 5 5 .int := ⟨RX5, TX5, 8, tyX5, rfl, by decide, wi_5, wd_434, rfl, tyX5_ok, nmX5, rfl, Or.inl rfl⟩
theorem fp_X9_111 : j_fp RX9 111 5 6 .float := ⟨RX5, TX5, 8, tyX5, rfl, by decide, wi_5, wd_436, rfl, tyX5_ok, nmX5, rfl, Or.inl rfl⟩
theorem cv_X9_115 : j_cv RX9 115 mX0_delays 0 := ⟨wd_438, wd_439, wd_440, wd_47, wd_437, by decide, by decide, by decide +kernel⟩
theorem fo_X9_119 : j_fo RX9 119 4 1 := ⟨RX4, TX4, 4, rfl, by decide, wi_4, wd_441, rfl⟩
theorem fo_X9_125 : j_fo RX9 125 5 7 := ⟨RX5, TX5, 8, rfl, by decide, wi_5, wd_442, rfl⟩
theorem fp_X9_125 : j_fp RX9 125 5 7 .int := ⟨RX5, TX5, 8, tyX5, rfl, by decide, wi_5, wd_442, rfl, tyX5_ok, nmX5, rfl, Or.inl rfl⟩
theorem fo_X9_128 : j_fo RX9 128 1 7 := ⟨RX1, TX1, 8, rfl, by decide, wi_1, wd_443, rfl⟩
theorem cv_X9_131 : j_cv RX9 131 mX5_isStart 0 := ⟨wd_444, wd_221, wd_222, wd_61, wd_219, by decide, by decide, by decide +kernel⟩
theorem cv_X9_135 : j_cv RX9 135 mX5_isEndKind 0 := ⟨wd_445, wd_63, wd_64, wd_61, wd_60, by decide, by decide, by decide +kernel⟩
theorem cv_X9_138 : j_cv RX9 138 mX1_addRule 3 := ⟨wd_447, wd_448, wd_449, wd_123, wd_446, by decide, by decide, by decide +kernel⟩
theorem fo_X9_142 : j_fo RX9 142 9 2 := ⟨RX9, TX9, 4, rfl, by decide, wi_9, wd_450, rfl⟩
theorem fp_X9_142 : j_fp RX9 142 9 2 .boolean := ⟨RX9, TX9, 4, tyX9, rfl, by decide, wi_9, wd_450, rfl, tyX9_ok, nmX9, rfl, Or.inl rfl⟩
theorem fo_X9_146 : j_fo RX9 146 9 3 := ⟨RX9, TX9, 4, rfl, by decide, wi_9, wd_451, rfl⟩
theorem fp_X9_146 : j_fp RX9 146 9 3 .int := ⟨RX9, TX9, 4, tyX9, rfl, by decide, wi_9, wd_451, rfl, tyX9_ok, nmX9, rfl, Or.inl rfl⟩
theorem cv_X9_149 : j_cv RX9 149 mX2_tell 1 := ⟨wd_453, wd_454, wd_455, wd_93, wd_452, by decide, by decide, by decide +kernel⟩
theorem cv_X9_153 : j_cv RX9 153 mX1_timesFeed 1 := ⟨wd_457, wd_458, wd_459, wd_123, wd_456, by decide, by decide, by decide +kernel⟩
theorem cv_X9_156 : j_cv RX9 156 mX5_tell 1 := ⟨wd_461, wd_462, wd_463, wd_61, wd_460, by decide, by decide, by decide +kernel⟩
theorem cv_X9_157 : j_cv RX9 157 mX4_ofEdge 2 := ⟨wd_464, wd_302, wd_303, wd_16, wd_300, by decide, by decide, by decide +kernel⟩
theorem cv_X9_161 : j_cv RX9 161 mX1_hasCorner 1 := ⟨wd_466, wd_467, wd_468, wd_123, wd_465, by decide, by decide, by decide +kernel⟩
theorem cv_X9_164 : j_cv RX9 164 mX0_timing 2 := ⟨wd_469, wd_49, wd_50, wd_47, wd_46, by decide, by decide, by decide +kernel⟩
theorem cv_X9_168 : j_cv RX9 168 mX8_arrivalOf 3 := ⟨wd_470, wd_375, wd_376, wd_23, wd_373, by decide, by decide, by decide +kernel⟩
theorem cv_X9_174 : j_cv RX9 174 mX9_mustBePair 2 := ⟨wd_472, wd_473, wd_474, wd_56, wd_471, by decide, by decide, by decide +kernel⟩
theorem cv_X9_178 : j_cv RX9 178 mX1_winnerOf 2 := ⟨wd_475, wd_245, wd_246, wd_123, wd_243, by decide, by decide, by decide +kernel⟩
theorem cv_X9_181 : j_cv RX9 181 mX8_leftOf 2 := ⟨wd_476, wd_342, wd_343, wd_23, wd_340, by decide, by decide, by decide +kernel⟩
theorem cv_X9_184 : j_cv RX9 184 mX8_leastAt 1 := ⟨wd_477, wd_67, wd_68, wd_23, wd_65, by decide, by decide, by decide +kernel⟩
theorem fo_X9_188 : j_fo RX9 188 8 7 := ⟨RX8, TX8, 9, rfl, by decide, wi_8, wd_478, rfl⟩
theorem cv_X9_192 : j_cv RX9 192 mX0_paths 0 := ⟨wd_480, wd_481, wd_482, wd_47, wd_479, by decide, by decide, by decide +kernel⟩
theorem cv_X9_196 : j_cv RX9 196 mX6_waysTo 2 := ⟨wd_484, wd_485, wd_486, wd_9, wd_483, by decide, by decide, by decide +kernel⟩
theorem cv_X9_201 : j_cv RX9 201 mX8_worstWay 2 := ⟨wd_488, wd_489, wd_490, wd_23, wd_487, by decide, by decide, by decide +kernel⟩
theorem cv_X9_204 : j_cv RX9 204 mX6_checkedPairs 0 := ⟨wd_492, wd_493, wd_494, wd_9, wd_491, by decide, by decide, by decide +kernel⟩
theorem cv_X9_208 : j_cv RX9 208 mX0_endsInNeed 1 := ⟨wd_496, wd_497, wd_498, wd_47, wd_495, by decide, by decide, by decide +kernel⟩
theorem cv_X9_212 : j_cv RX9 212 mX6_crossings 1 := ⟨wd_500, wd_501, wd_502, wd_9, wd_499, by decide, by decide, by decide +kernel⟩
theorem cv_X9_215 : j_cv RX9 215 mX0_leastOfAll 1 := ⟨wd_503, wd_76, wd_77, wd_47, wd_74, by decide, by decide, by decide +kernel⟩
theorem cv_X9_219 : j_cv RX9 219 mX0_leastWith 2 := ⟨wd_504, wd_80, wd_81, wd_47, wd_78, by decide, by decide, by decide +kernel⟩
theorem cv_X9_222 : j_cv RX9 222 mX0_bestChange 0 := ⟨wd_506, wd_507, wd_508, wd_47, wd_505, by decide, by decide, by decide +kernel⟩
theorem cv_X9_225 : j_cv RX9 225 mX0_makesIdle 2 := ⟨wd_510, wd_511, wd_512, wd_47, wd_509, by decide, by decide, by decide +kernel⟩
theorem cv_X9_233 : j_cv RX9 233 mX9_many 1 := ⟨wd_516, wd_517, wd_518, wd_56, wd_515, by decide, by decide, by decide +kernel⟩
theorem cv_X9_236 : j_cv RX9 236 mX9_ofClock 2 := ⟨wd_520, wd_521, wd_522, wd_56, wd_519, by decide, by decide, by decide +kernel⟩
theorem cv_X9_239 : j_cv RX9 239 mX9_digestNode 2 := ⟨wd_524, wd_525, wd_526, wd_56, wd_523, by decide, by decide, by decide +kernel⟩
theorem cv_X9_243 : j_cv RX9 243 mX9_ofNode 2 := ⟨wd_528, wd_529, wd_530, wd_56, wd_527, by decide, by decide, by decide +kernel⟩
theorem cv_X9_248 : j_cv RX9 248 mX9_load 1 := ⟨wd_533, wd_534, wd_535, wd_56, wd_532, by decide, by decide, by decide +kernel⟩
theorem cv_X9_251 : j_cv RX9 251 mX9_leftAt 3 := ⟨wd_537, wd_538, wd_539, wd_56, wd_536, by decide, by decide, by decide +kernel⟩
theorem cv_X9_255 : j_cv RX9 255 mX9_worst 2 := ⟨wd_541, wd_542, wd_543, wd_56, wd_540, by decide, by decide, by decide +kernel⟩
end
section
/-! the state of a SlackHall: 84 cells in the order of their making; behind them the law's own -/
abbrev jS : Type := (Nat → Nat → Int32) × (Nat → Nat → Int32) × (Nat → Nat → UInt64) × (Nat → Nat → UInt32) × (Nat → Nat)
/-- int fields, int arrays, doubles, floats of the cell k; the clock of a node -/
abbrev sI (S : jS) : Nat → Nat → Int32 := S.1
abbrev sA (S : jS) : Nat → Nat → Int32 := S.2.1
abbrev sD (S : jS) : Nat → Nat → UInt64 := S.2.2.1
abbrev sF (S : jS) : Nat → Nat → UInt32 := S.2.2.2.1
abbrev sV (S : jS) : Nat → Nat := S.2.2.2.2
def refs (n o : Nat) : Nat → Option Nat := fun j => if j < n then some (j + o) else none
/-- the places of the timings: the trial, then late and early of each corner -/
def isLateT (j : Nat) : Int32 := if j = 0 then 1 else if j % 2 = 1 then 1 else 0
def delT (j : Nat) : Nat := if j = 0 then 47 else 44
def tref (o : Nat) : Nat → Option Nat := fun j => if j < 3 then some (10 * j + o) else none
def cc (S : jS) (k : Nat) : j_C :=
  if k < 6 then
    match k with
    | 0 => .inr (9, [.ref 2, .ref 36, .int (sI S 0 2), .int (sI S 0 3)])
    | 1 => .inr (1, [.ref 3, .ref 4, .ref 5, .ref 6, .int (sI S 1 4), .int (sI S 1 5), .int (sI S 1 6), .int (sI S 1 7)])
    | 2 => .inl (3, 4, .inr (.inr (.inr (.inr (refs 4 7)))))
    | 3 => .inl (4, 3, .inr (.inr (.inr (.inr (refs 3 11)))))
    | 4 => .inl (5, 16, .inr (.inr (.inr (.inr (refs 16 14)))))
    | _ => .inl (6, 6, .inr (.inr (.inr (.inr (refs 6 30)))))
  else if k < 10 then .inr (2, [.int (sI S k 0), .int (sI S k 1), .int (sI S k 2), .int (sI S k 3), .int (sI S k 4)])
  else if k < 13 then .inr (3, [.double (sD S k 0), .double (sD S k 1)])
  else if k < 29 then .inr (5, [.int (sI S k 0), .int (sI S k 1), .int (sI S k 2), .int (sI S k 3), .ref (sV S (k - 13) + 7), .int (sI S k 5), .float (sF S k 6), .int (sI S k 7)])
  else if k < 35 then .inr (7, [.int (sI S k 0), .int (sI S k 1), .int (sI S k 2)])
  else if k < 49 then
    match k - 35 with
    | 0 => .inr (0, [.ref 2, .ref 39, .ref 44, .ref 37, .ref 38, .ref 47, .ref 50])
    | 1 => .inl (7, 3, .inr (.inr (.inr (.inr (tref 55)))))
    | 2 => .inl (7, 3, .inr (.inr (.inr (.inr (tref 60)))))
    | 3 => .inr (6, [.ref 2, .ref 40, .ref 41, .ref 42, .ref 43, .int (sI S 38 5)])
    | 4 => .inl (0, 16, .inl (sA S 39))
    | 5 => .inl (0, 16, .inl (sA S 40))
    | 6 => .inl (0, 256, .inl (sA S 41))
    | 7 => .inl (0, 256, .inl (sA S 42))
    | 8 => .inr (4, [.ref 2, .ref 45, .ref 46, .int (sI S 43 3)])
    | 9 => .inl (2, 16, .inr (.inr (.inl (sF S 44))))
    | 10 => .inl (1, 16, .inr (.inr (.inr (.inl (sD S 45)))))
    | 11 => .inr (4, [.ref 2, .ref 48, .ref 49, .int (sI S 46 3)])
    | 12 => .inl (2, 16, .inr (.inr (.inl (sF S 47))))
    | _ => .inl (1, 16, .inr (.inr (.inr (.inl (sD S 48)))))
  else
    match (k - 49) % 5 with
    | 0 => .inr (8, [.ref 2, .ref 39, .ref (delT ((k - 49) / 5)), .int (isLateT ((k - 49) / 5)), .ref (k + 2), .ref (k + 3), .ref (k + 4), .ref (k + 5), .int (sI S k 8)])
    | 1 => .inl (1, 512, .inr (.inr (.inr (.inl (sD S k)))))
    | 2 => .inl (1, 256, .inr (.inr (.inr (.inl (sD S k)))))
    | _ => .inl (1, 16, .inr (.inr (.inr (.inl (sD S k)))))
def wd (S : jS) (E : List j_C) : List j_C := (List.range 84).map (cc S) ++ E
theorem wd_len (S : jS) (E : List j_C) : (wd S E).length = 84 + E.length := by simp [wd]
theorem wd_at {S : jS} {E : List j_C} {k : Nat} {c : j_C} (hk : k < 84) (h : cc S k = c) : (wd S E)[k]? = some c := by
  unfold wd
  rw [List.getElem?_append_left (by simpa using hk), List.getElem?_map, List.getElem?_range hk, ← h]
  rfl
theorem wd_set {S S' : jS} {E : List j_C} {k : Nat} {c : j_C} (hk : k < 84) (h : cc S' k = c) (ho : ∀ j, j ≠ k → cc S' j = cc S j) : (wd S E).set k c = wd S' E := by
  unfold wd
  rw [List.set_append_left _ _ (by simpa using hk)]
  congr 1
  apply List.ext_getElem?
  intro i
  rw [List.getElem?_set]
  by_cases e : k = i
  · subst e
    rw [if_pos rfl, if_pos (by simpa using hk), List.getElem?_map, List.getElem?_range hk, ← h]
    rfl
  · rw [if_neg e, List.getElem?_map, List.getElem?_map]
    by_cases hi : i < 84
    · rw [List.getElem?_range hi]
      exact congrArg some (ho i (fun z => e z.symm)).symm
    · rw [List.getElem?_eq_none (by simpa using hi)]
      rfl
def up2 {α : Type} (F : Nat → Nat → α) (k f : Nat) (v : α) : Nat → Nat → α := fun a b => if a = k ∧ b = f then v else F a b
def up1 {α : Type} (F : Nat → Nat → α) (k : Nat) (g : Nat → α) : Nat → Nat → α := fun a => if a = k then g else F a
theorem up2_eq {α : Type} (F : Nat → Nat → α) (k f : Nat) (v : α) : up2 F k f v k f = v := if_pos ⟨rfl, rfl⟩
theorem up2_k {α : Type} (F : Nat → Nat → α) {k a f b : Nat} (v : α) (h : a ≠ k) : up2 F k f v a b = F a b := if_neg fun z => h z.1
theorem up2_f {α : Type} (F : Nat → Nat → α) {k a f b : Nat} (v : α) (h : b ≠ f) : up2 F k f v a b = F a b := if_neg fun z => h z.2
theorem up1_eq {α : Type} (F : Nat → Nat → α) (k : Nat) (g : Nat → α) : up1 F k g k = g := if_pos rfl
theorem up1_ne {α : Type} (F : Nat → Nat → α) {k a : Nat} (g : Nat → α) (h : a ≠ k) : up1 F k g a = F a := if_neg h
/-- an int field, an int array, a double field, a double array, a float field, a float array, a node's clock: changed -/
def pI (S : jS) (k f : Nat) (v : Int32) : jS := (up2 S.1 k f v, S.2)
def pA (S : jS) (k : Nat) (g : Nat → Int32) : jS := (S.1, up1 S.2.1 k g, S.2.2)
def pD2 (S : jS) (k f : Nat) (v : UInt64) : jS := (S.1, S.2.1, up2 S.2.2.1 k f v, S.2.2.2)
def pD (S : jS) (k : Nat) (g : Nat → UInt64) : jS := (S.1, S.2.1, up1 S.2.2.1 k g, S.2.2.2)
def pF2 (S : jS) (k f : Nat) (v : UInt32) : jS := (S.1, S.2.1, S.2.2.1, up2 S.2.2.2.1 k f v, S.2.2.2.2)
def pF (S : jS) (k : Nat) (g : Nat → UInt32) : jS := (S.1, S.2.1, S.2.2.1, up1 S.2.2.2.1 k g, S.2.2.2.2)
def pV (S : jS) (i v : Nat) : jS := (S.1, S.2.1, S.2.2.1, S.2.2.2.1, fun a => if a = i then v else S.2.2.2.2 a)
/-- a cell hangs on what is its own alone -/
theorem cc_congr {S S' : jS} {j : Nat} (h1 : ∀ f, S'.1 j f = S.1 j f) (h2 : S'.2.1 j = S.2.1 j) (h3 : S'.2.2.1 j = S.2.2.1 j) (h4 : S'.2.2.2.1 j = S.2.2.2.1 j) (h5 : 13 ≤ j → j < 29 → S'.2.2.2.2 (j - 13) = S.2.2.2.2 (j - 13)) : cc S' j = cc S j := by
  unfold cc sI sA sD sF sV
  by_cases a1 : j < 6
  · rw [if_pos a1, if_pos a1]
    rcases (by omega : j = 0 ∨ j = 1 ∨ j = 2 ∨ j = 3 ∨ j = 4 ∨ j = 5) with rfl | rfl | rfl | rfl | rfl | rfl <;> simp only [h1]
  rw [if_neg a1, if_neg a1]
  by_cases a2 : j < 10
  · rw [if_pos a2, if_pos a2]
    simp only [h1]
  rw [if_neg a2, if_neg a2]
  by_cases a3 : j < 13
  · rw [if_pos a3, if_pos a3, h3]
  rw [if_neg a3, if_neg a3]
  by_cases a4 : j < 29
  · rw [if_pos a4, if_pos a4, h4, h5 (by omega) a4]
    simp only [h1]
  rw [if_neg a4, if_neg a4]
  by_cases a5 : j < 35
  · rw [if_pos a5, if_pos a5]
    simp only [h1]
  rw [if_neg a5, if_neg a5]
  by_cases a6 : j < 49
  · rw [if_pos a6, if_pos a6]
    rcases (by omega : j = 35 ∨ j = 36 ∨ j = 37 ∨ j = 38 ∨ j = 39 ∨ j = 40 ∨ j = 41 ∨ j = 42 ∨ j = 43 ∨ j = 44 ∨ j = 45 ∨ j = 46 ∨ j = 47 ∨ j = 48) with rfl | rfl | rfl | rfl | rfl | rfl | rfl | rfl | rfl | rfl | rfl | rfl | rfl | rfl <;> first | (simp only [h1, h2, h3, h4]; done) | (show (Sum.inl (1, 16, Sum.inr (Sum.inr (Sum.inr (Sum.inl (S'.2.2.1 48))))) : j_C) = Sum.inl (1, 16, Sum.inr (Sum.inr (Sum.inr (Sum.inl (S.2.2.1 48))))); rw [h3])
  rw [if_neg a6, if_neg a6]
  simp only [h1, h3]
theorem pI_o {S : jS} {k f j : Nat} {v : Int32} (h : j ≠ k) : cc (pI S k f v) j = cc S j := cc_congr (fun _ => up2_k _ _ h) rfl rfl rfl (fun _ _ => rfl)
theorem pA_o {S : jS} {k j : Nat} {g : Nat → Int32} (h : j ≠ k) : cc (pA S k g) j = cc S j := cc_congr (fun _ => rfl) (up1_ne _ _ h) rfl rfl (fun _ _ => rfl)
theorem pD_o {S : jS} {k j : Nat} {g : Nat → UInt64} (h : j ≠ k) : cc (pD S k g) j = cc S j := cc_congr (fun _ => rfl) rfl (up1_ne _ _ h) rfl (fun _ _ => rfl)
theorem pF_o {S : jS} {k j : Nat} {g : Nat → UInt32} (h : j ≠ k) : cc (pF S k g) j = cc S j := cc_congr (fun _ => rfl) rfl rfl (up1_ne _ _ h) (fun _ _ => rfl)
theorem pD2_o {S : jS} {k f j : Nat} {v : UInt64} (h : j ≠ k) : cc (pD2 S k f v) j = cc S j := cc_congr (fun _ => rfl) rfl (funext fun _ => up2_k _ _ h) rfl (fun _ _ => rfl)
theorem pF2_o {S : jS} {k f j : Nat} {v : UInt32} (h : j ≠ k) : cc (pF2 S k f v) j = cc S j := cc_congr (fun _ => rfl) rfl rfl (funext fun _ => up2_k _ _ h) (fun _ _ => rfl)
theorem pV_o {S : jS} {i v j : Nat} (h : j ≠ i + 13) : cc (pV S i v) j = cc S j := cc_congr (fun _ => rfl) rfl rfl rfl (fun a _ => if_neg (by omega))
/-! the cells, by kind -/
theorem cc_clock {S : jS} {v : Nat} (h : v < 4) : cc S (v + 6) = .inr (2, [.int (sI S (v + 6) 0), .int (sI S (v + 6) 1), .int (sI S (v + 6) 2), .int (sI S (v + 6) 3), .int (sI S (v + 6) 4)]) := by
  unfold cc
  rw [if_neg (by omega), if_pos (by omega)]
theorem cc_corner {S : jS} {v : Nat} (h : v < 3) : cc S (v + 10) = .inr (3, [.double (sD S (v + 10) 0), .double (sD S (v + 10) 1)]) := by
  unfold cc
  rw [if_neg (by omega), if_neg (by omega), if_pos (by omega)]
theorem cc_node {S : jS} {i : Nat} (h : i < 16) : cc S (i + 13) = .inr (5, [.int (sI S (i + 13) 0), .int (sI S (i + 13) 1), .int (sI S (i + 13) 2), .int (sI S (i + 13) 3), .ref (sV S i + 7), .int (sI S (i + 13) 5), .float (sF S (i + 13) 6), .int (sI S (i + 13) 7)]) := by
  unfold cc
  rw [if_neg (by omega), if_neg (by omega), if_neg (by omega), if_pos (by omega), Nat.add_sub_cancel]
theorem cc_rule {S : jS} {i : Nat} (h : i < 6) : cc S (i + 29) = .inr (7, [.int (sI S (i + 29) 0), .int (sI S (i + 29) 1), .int (sI S (i + 29) 2)]) := by
  unfold cc
  rw [if_neg (by omega), if_neg (by omega), if_neg (by omega), if_neg (by omega), if_pos (by omega)]
theorem cc_tim {S : jS} {j : Nat} : cc S (5 * j + 49) = .inr (8, [.ref 2, .ref 39, .ref (delT j), .int (isLateT j), .ref (5 * j + 51), .ref (5 * j + 52), .ref (5 * j + 53), .ref (5 * j + 54), .int (sI S (5 * j + 49) 8)]) := by
  unfold cc
  rw [if_neg (by omega), if_neg (by omega), if_neg (by omega), if_neg (by omega), if_neg (by omega), if_neg (by omega), show 5 * j + 49 - 49 = 5 * j by omega, show 5 * j % 5 = 0 by omega, show 5 * j / 5 = j by omega]
  rfl
theorem cc_arr {S : jS} {j : Nat} : cc S (5 * j + 50) = .inl (1, 512, .inr (.inr (.inr (.inl (sD S (5 * j + 50)))))) := by
  unfold cc
  rw [if_neg (by omega), if_neg (by omega), if_neg (by omega), if_neg (by omega), if_neg (by omega), if_neg (by omega), show (5 * j + 50 - 49) % 5 = 1 by omega]
  rfl
theorem cc_lefts {S : jS} {j : Nat} : cc S (5 * j + 51) = .inl (1, 256, .inr (.inr (.inr (.inl (sD S (5 * j + 51)))))) := by
  unfold cc
  rw [if_neg (by omega), if_neg (by omega), if_neg (by omega), if_neg (by omega), if_neg (by omega), if_neg (by omega), show (5 * j + 51 - 49) % 5 = 2 by omega]
  rfl
theorem cc_leasts {S : jS} {j : Nat} : cc S (5 * j + 52) = .inl (1, 16, .inr (.inr (.inr (.inl (sD S (5 * j + 52)))))) := by
  unfold cc
  rw [if_neg (by omega), if_neg (by omega), if_neg (by omega), if_neg (by omega), if_neg (by omega), if_neg (by omega), show (5 * j + 52 - 49) % 5 = 3 by omega]
  rfl
theorem cc_borrows {S : jS} {j : Nat} : cc S (5 * j + 53) = .inl (1, 16, .inr (.inr (.inr (.inl (sD S (5 * j + 53)))))) := by
  unfold cc
  rw [if_neg (by omega), if_neg (by omega), if_neg (by omega), if_neg (by omega), if_neg (by omega), if_neg (by omega), show (5 * j + 53 - 49) % 5 = 4 by omega]
  rfl
section J7
variable {S : jS} {E : List j_C} {i v j : Nat}
theorem h_clock (h : v < 4) : (wd S E)[v + 6]? = some (.inr (2, [.int (sI S (v + 6) 0), .int (sI S (v + 6) 1), .int (sI S (v + 6) 2), .int (sI S (v + 6) 3), .int (sI S (v + 6) 4)])) := wd_at (by omega) (cc_clock h)
theorem h_corner (h : v < 3) : (wd S E)[v + 10]? = some (.inr (3, [.double (sD S (v + 10) 0), .double (sD S (v + 10) 1)])) := wd_at (by omega) (cc_corner h)
theorem h_node (h : i < 16) : (wd S E)[i + 13]? = some (.inr (5, [.int (sI S (i + 13) 0), .int (sI S (i + 13) 1), .int (sI S (i + 13) 2), .int (sI S (i + 13) 3), .ref (sV S i + 7), .int (sI S (i + 13) 5), .float (sF S (i + 13) 6), .int (sI S (i + 13) 7)])) := wd_at (by omega) (cc_node h)
theorem h_rule (h : i < 6) : (wd S E)[i + 29]? = some (.inr (7, [.int (sI S (i + 29) 0), .int (sI S (i + 29) 1), .int (sI S (i + 29) 2)])) := wd_at (by omega) (cc_rule h)
theorem h_tim (h : j < 7) : (wd S E)[5 * j + 49]? = some (.inr (8, [.ref 2, .ref 39, .ref (delT j), .int (isLateT j), .ref (5 * j + 51), .ref (5 * j + 52), .ref (5 * j + 53), .ref (5 * j + 54), .int (sI S (5 * j + 49) 8)])) := wd_at (by omega) cc_tim
theorem h_arr (h : j < 7) : (wd S E)[5 * j + 50]? = some (.inl (1, 512, .inr (.inr (.inr (.inl (sD S (5 * j + 50))))))) := wd_at (by omega) cc_arr
theorem h_lefts (h : j < 7) : (wd S E)[5 * j + 51]? = some (.inl (1, 256, .inr (.inr (.inr (.inl (sD S (5 * j + 51))))))) := wd_at (by omega) cc_lefts
theorem h_leasts (h : j < 7) : (wd S E)[5 * j + 52]? = some (.inl (1, 16, .inr (.inr (.inr (.inl (sD S (5 * j + 52))))))) := wd_at (by omega) cc_leasts
theorem h_borrows (h : j < 7) : (wd S E)[5 * j + 53]? = some (.inl (1, 16, .inr (.inr (.inr (.inl (sD S (5 * j + 53))))))) := wd_at (by omega) cc_borrows
theorem h_SH : (wd S E)[0]? = some (.inr (9, [.ref 2, .ref 36, .int (sI S 0 2), .int (sI S 0 3)])) := wd_at (by decide) rfl
theorem h_chip : (wd S E)[1]? = some (.inr (1, [.ref 3, .ref 4, .ref 5, .ref 6, .int (sI S 1 4), .int (sI S 1 5), .int (sI S 1 6), .int (sI S 1 7)])) := wd_at (by decide) rfl
theorem h_clocks : (wd S E)[2]? = some (.inl (3, 4, .inr (.inr (.inr (.inr (refs 4 7)))))) := wd_at (by decide) rfl
theorem h_corners : (wd S E)[3]? = some (.inl (4, 3, .inr (.inr (.inr (.inr (refs 3 11)))))) := wd_at (by decide) rfl
theorem h_nodes : (wd S E)[4]? = some (.inl (5, 16, .inr (.inr (.inr (.inr (refs 16 14)))))) := wd_at (by decide) rfl
theorem h_rules : (wd S E)[5]? = some (.inl (6, 6, .inr (.inr (.inr (.inr (refs 6 30)))))) := wd_at (by decide) rfl
theorem h_an : (wd S E)[35]? = some (.inr (0, [.ref 2, .ref 39, .ref 44, .ref 37, .ref 38, .ref 47, .ref 50])) := wd_at (by decide) rfl
theorem h_lates : (wd S E)[36]? = some (.inl (7, 3, .inr (.inr (.inr (.inr (tref 55)))))) := wd_at (by decide) rfl
theorem h_earlies : (wd S E)[37]? = some (.inl (7, 3, .inr (.inr (.inr (.inr (tref 60)))))) := wd_at (by decide) rfl
theorem h_paths : (wd S E)[38]? = some (.inr (6, [.ref 2, .ref 40, .ref 41, .ref 42, .ref 43, .int (sI S 38 5)])) := wd_at (by decide) rfl
theorem h_reach : (wd S E)[39]? = some (.inl (0, 16, .inl (sA S 39))) := wd_at (by decide) rfl
theorem h_checked : (wd S E)[40]? = some (.inl (0, 16, .inl (sA S 40))) := wd_at (by decide) rfl
theorem h_counts : (wd S E)[41]? = some (.inl (0, 256, .inl (sA S 41))) := wd_at (by decide) rfl
theorem h_gaps : (wd S E)[42]? = some (.inl (0, 256, .inl (sA S 42))) := wd_at (by decide) rfl
/-- the delays, and those of the trial: at x = 43 and 46 -/
theorem h_del {x : Nat} (h : x = 43 ∨ x = 46) : (wd S E)[x]? = some (.inr (4, [.ref 2, .ref (x + 2), .ref (x + 3), .int (sI S x 3)])) := by
  rcases h with rfl | rfl <;> exact wd_at (by decide) rfl
theorem h_loads {x : Nat} (h : x = 43 ∨ x = 46) : (wd S E)[x + 1]? = some (.inl (2, 16, .inr (.inr (.inl (sF S (x + 1)))))) := by
  rcases h with rfl | rfl <;> exact wd_at (by decide) rfl
theorem h_rises {x : Nat} (h : x = 43 ∨ x = 46) : (wd S E)[x + 2]? = some (.inl (1, 16, .inr (.inr (.inr (.inl (sD S (x + 2))))))) := by
  rcases h with rfl | rfl <;> exact wd_at (by decide) rfl
end J7
end
section
/-! writing the cells of a SlackHall -/
def bI (b : Bool) : Int32 := if b = true then 1 else 0
theorem bI_0 {b : Bool} : bI b = 0 ↔ b = false := by cases b <;> simp [bI]
theorem bI_n {b : Bool} : ¬ bI b = 0 ↔ b = true := by cases b <;> simp [bI]
theorem bI_nar (b : Bool) : narrow .boolean (.int (bI b)) = .int (bI b) := by cases b <;> rfl
section J8
variable {l : Launch} {D : va_G} {ad : Nat → Nat} {tc : Nat → ClassId} {L : Nat} {xs : Nat → Int32} {M : j_M} {d lo pc : Nat} {lv : j_L} {st : List Value} {h' : j_H} {r : Option Value} {S S' : jS} {E : List j_C} {sl : Nat}
theorem rn_eq {h h2 : j_H} (e : h = h2) (k : Rn l D ad tc L xs M d lo pc lv st h2 r h') : Rn l D ad tc L xs M d lo pc lv st h r h' := e ▸ k
theorem rn_put {idx ci k a : Nat} {fs : List Value} {v : Value} {ty : FieldType} (hd : decode M.2.1 pc = .ok (.putfield idx, 3)) (hf : j_fp M.1.cls idx ci k ty) (ha : a < 84) (he : cc S a = .inr (ci, fs)) (hs : cc S' a = .inr (ci, fs.set k v)) (ho : ∀ j, j ≠ a → cc S' j = cc S j) (hk : k < fs.length) (hn : ∀ ad, narrow ty (j_v ad v) = j_v ad v ∧ fits ty (j_v ad v) = true) (hi : M.1.name = "<init>" ∨ ∃ C T N, j_cl[ci]? = some (C, T, N) ∧ (T k).2.2.2 = false)
    (kk : Rn l D ad tc L xs M d lo (pc + 3) lv st (wd S' E, sl) r h') : Rn l D ad tc L xs M d lo pc lv (v :: .ref (a + 1) :: st) (wd S E, sl) r h' :=
  rn_putfield (h := (wd S E, sl)) hd hf (wd_at ha he) hk hn hi (rn_eq (congrArg (fun x => (x, sl)) (wd_set ha hs ho)) kk)
/-- an int field of the cell a -/
theorem rn_pI {idx ci k a : Nat} {fs : List Value} {x : Int32} {ty : FieldType} (hd : decode M.2.1 pc = .ok (.putfield idx, 3)) (hf : j_fp M.1.cls idx ci k ty) (ha : a < 84) (he : cc S a = .inr (ci, fs)) (hs : cc (pI S a k x) a = .inr (ci, fs.set k (.int x))) (hk : k < fs.length) (hn : narrow ty (.int x) = .int x ∧ fits ty (.int x) = true) (hi : ∃ C T N, j_cl[ci]? = some (C, T, N) ∧ (T k).2.2.2 = false)
    (kk : Rn l D ad tc L xs M d lo (pc + 3) lv st (wd (pI S a k x) E, sl) r h') : Rn l D ad tc L xs M d lo pc lv (.int x :: .ref (a + 1) :: st) (wd S E, sl) r h' :=
  rn_put hd hf ha he hs (fun _ => pI_o) hk (fun _ => hn) (Or.inr hi) kk
theorem rn_pV {idx i v : Nat} {ty : FieldType} (hd : decode M.2.1 pc = .ok (.putfield idx, 3)) (hf : j_fp M.1.cls idx 5 4 ty) (hi : i < 16) (hn : ∀ a, narrow ty (.ref a) = .ref a ∧ fits ty (.ref a) = true)
    (kk : Rn l D ad tc L xs M d lo (pc + 3) lv st (wd (pV S i v) E, sl) r h') : Rn l D ad tc L xs M d lo pc lv (.ref (v + 7) :: .ref (i + 14) :: st) (wd S E, sl) r h' :=
  rn_put (a := i + 13) hd hf (by omega) (cc_node hi) (by rw [cc_node hi]; simp [pV, sI, sF, sV]) (fun _ => pV_o) (by simp) (fun ad => hn (ad (v + 7))) (Or.inr ⟨_, _, _, rfl, rfl⟩) kk
theorem rn_pW {idx i : Nat} {x : UInt32} {ty : FieldType} (hd : decode M.2.1 pc = .ok (.putfield idx, 3)) (hf : j_fp M.1.cls idx 5 6 ty) (hi : i < 16) (hn : narrow ty (.float x) = .float x ∧ fits ty (.float x) = true)
    (kk : Rn l D ad tc L xs M d lo (pc + 3) lv st (wd (pF2 S (i + 13) 6 x) E, sl) r h') : Rn l D ad tc L xs M d lo pc lv (.float x :: .ref (i + 14) :: st) (wd S E, sl) r h' :=
  rn_put (a := i + 13) hd hf (by omega) (cc_node hi) (by rw [cc_node hi]; simp [pF2, sI, sF, sV, up2]) (fun _ => pF2_o) (by simp) (fun _ => hn) (Or.inr ⟨_, _, _, rfl, rfl⟩) kk
theorem rn_pC {idx k v : Nat} {x : UInt64} {ty : FieldType} (hd : decode M.2.1 pc = .ok (.putfield idx, 3)) (hf : j_fp M.1.cls idx 3 k ty) (hv : v < 3) (hk : k = 0 ∨ k = 1) (hn : narrow ty (.double x) = .double x ∧ fits ty (.double x) = true)
    (kk : Rn l D ad tc L xs M d lo (pc + 3) lv st (wd (pD2 S (v + 10) k x) E, sl) r h') : Rn l D ad tc L xs M d lo pc lv (.double x :: .ref (v + 11) :: st) (wd S E, sl) r h' := by
  refine rn_put (a := v + 10) hd hf (by omega) (cc_corner hv) ?_ (fun _ => pD2_o) (by rcases hk with rfl | rfl <;> simp) (fun _ => hn) ?_ kk
  · rw [cc_corner hv]
    rcases hk with rfl | rfl <;> simp [pD2, sD, up2]
  · rcases hk with rfl | rfl <;> exact Or.inr ⟨_, _, _, rfl, rfl⟩
theorem cc_nodeI {i f : Nat} {x : Int32} (hi : i < 16) (hf : f = 0 ∨ f = 1 ∨ f = 2 ∨ f = 3 ∨ f = 5 ∨ f = 7) : cc (pI S (i + 13) f x) (i + 13) = .inr (5, [.int (sI S (i + 13) 0), .int (sI S (i + 13) 1), .int (sI S (i + 13) 2), .int (sI S (i + 13) 3), .ref (sV S i + 7), .int (sI S (i + 13) 5), .float (sF S (i + 13) 6), .int (sI S (i + 13) 7)].set f (.int x)) := by
  rw [cc_node hi]
  rcases hf with rfl | rfl | rfl | rfl | rfl | rfl <;> simp [pI, up2, sI, sF, sV]
theorem cc_clockI {v f : Nat} {x : Int32} (hv : v < 4) (hf : f < 5) : cc (pI S (v + 6) f x) (v + 6) = .inr (2, [.int (sI S (v + 6) 0), .int (sI S (v + 6) 1), .int (sI S (v + 6) 2), .int (sI S (v + 6) 3), .int (sI S (v + 6) 4)].set f (.int x)) := by
  rw [cc_clock hv]
  rcases (by omega : f = 0 ∨ f = 1 ∨ f = 2 ∨ f = 3 ∨ f = 4) with rfl | rfl | rfl | rfl | rfl <;> simp [pI, up2, sI]
theorem cc_ruleI {i f : Nat} {x : Int32} (hi : i < 6) (hf : f < 3) : cc (pI S (i + 29) f x) (i + 29) = .inr (7, [.int (sI S (i + 29) 0), .int (sI S (i + 29) 1), .int (sI S (i + 29) 2)].set f (.int x)) := by
  rw [cc_rule hi]
  rcases (by omega : f = 0 ∨ f = 1 ∨ f = 2) with rfl | rfl | rfl <;> simp [pI, up2, sI]
theorem cc_timI {j : Nat} {x : Int32} : cc (pI S (5 * j + 49) 8 x) (5 * j + 49) = .inr (8, [.ref 2, .ref 39, .ref (delT j), .int (isLateT j), .ref (5 * j + 51), .ref (5 * j + 52), .ref (5 * j + 53), .ref (5 * j + 54), .int (sI S (5 * j + 49) 8)].set 8 (.int x)) := by
  rw [cc_tim]
  simp [pI, up2, sI]
/-- an int array at the cell a -/
theorem rn_pA {a n : Nat} {i x : Int32} (hd : decode M.2.1 pc = .ok (.iastore, 1)) (ha : a < 84) (he : cc S a = .inl (0, n, .inl (S.2.1 a))) (hs : ∀ g, cc (pA S a g) a = .inl (0, n, .inl g)) (hin : vp_in i n)
    (kk : Rn l D ad tc L xs M d lo (pc + 1) lv st (wd (pA S a (upd (S.2.1 a) i.toNatClampNeg x)) E, sl) r h') : Rn l D ad tc L xs M d lo pc lv (.int x :: .int i :: .ref (a + 1) :: st) (wd S E, sl) r h' :=
  rn_iastore (h := (wd S E, sl)) hd (wd_at ha he) rfl hin (rn_eq (congrArg (fun x => (x, sl)) (wd_set ha (hs _) (fun _ => pA_o))) kk)
theorem rn_pD {a n : Nat} {i : Int32} {x : UInt64} (hd : decode M.2.1 pc = .ok (.dastore, 1)) (ha : a < 84) (he : cc S a = .inl (1, n, .inr (.inr (.inr (.inl (S.2.2.1 a)))))) (hs : ∀ g, cc (pD S a g) a = .inl (1, n, .inr (.inr (.inr (.inl g))))) (hin : vp_in i n)
    (kk : Rn l D ad tc L xs M d lo (pc + 1) lv st (wd (pD S a (vf_upd (S.2.2.1 a) i.toNatClampNeg x)) E, sl) r h') : Rn l D ad tc L xs M d lo pc lv (.double x :: .int i :: .ref (a + 1) :: st) (wd S E, sl) r h' :=
  rn_dastore (h := (wd S E, sl)) hd (wd_at ha he) rfl hin (rn_eq (congrArg (fun x => (x, sl)) (wd_set ha (hs _) (fun _ => pD_o))) kk)
theorem rn_pF {a n : Nat} {i : Int32} {x : UInt32} (hd : decode M.2.1 pc = .ok (.fastore, 1)) (ha : a < 84) (he : cc S a = .inl (2, n, .inr (.inr (.inl (S.2.2.2.1 a))))) (hs : ∀ g, cc (pF S a g) a = .inl (2, n, .inr (.inr (.inl g)))) (hin : vp_in i n)
    (kk : Rn l D ad tc L xs M d lo (pc + 1) lv st (wd (pF S a (vf_upd (S.2.2.2.1 a) i.toNatClampNeg x)) E, sl) r h') : Rn l D ad tc L xs M d lo pc lv (.float x :: .int i :: .ref (a + 1) :: st) (wd S E, sl) r h' :=
  rn_fastore (h := (wd S E, sl)) hd (wd_at ha he) rfl hin (rn_eq (congrArg (fun x => (x, sl)) (wd_set ha (hs _) (fun _ => pF_o))) kk)
theorem pA_s {a n : Nat} (ha : a = 39 ∧ n = 16 ∨ a = 40 ∧ n = 16 ∨ a = 41 ∧ n = 256 ∨ a = 42 ∧ n = 256) : cc S a = .inl (0, n, .inl (S.2.1 a)) ∧ ∀ g, cc (pA S a g) a = .inl (0, n, .inl g) := by
  rcases ha with ⟨rfl, rfl⟩ | ⟨rfl, rfl⟩ | ⟨rfl, rfl⟩ | ⟨rfl, rfl⟩ <;> exact ⟨rfl, fun _ => rfl⟩
theorem pD_arr {j : Nat} (g : Nat → UInt64) : cc (pD S (5 * j + 50) g) (5 * j + 50) = .inl (1, 512, .inr (.inr (.inr (.inl g)))) := by rw [cc_arr]; simp [pD, sD, up1]
theorem pD_lefts {j : Nat} (g : Nat → UInt64) : cc (pD S (5 * j + 51) g) (5 * j + 51) = .inl (1, 256, .inr (.inr (.inr (.inl g)))) := by rw [cc_lefts]; simp [pD, sD, up1]
theorem pD_leasts {j : Nat} (g : Nat → UInt64) : cc (pD S (5 * j + 52) g) (5 * j + 52) = .inl (1, 16, .inr (.inr (.inr (.inl g)))) := by rw [cc_leasts]; simp [pD, sD, up1]
theorem pD_borrows {j : Nat} (g : Nat → UInt64) : cc (pD S (5 * j + 53) g) (5 * j + 53) = .inl (1, 16, .inr (.inr (.inr (.inl g)))) := by rw [cc_borrows]; simp [pD, sD, up1]
/-- a reference out of an array of objects at known places -/
theorem refs_at {n o : Nat} {i : Int32} {k : Nat} (hi : i = nI k) (hk : k < n) (hn : n < 2 ^ 31) : refs n o i.toNatClampNeg = some (k + o) := by
  subst hi
  rw [nI_clamp (by omega)]
  exact if_pos hk
theorem tref_at {o : Nat} {i : Int32} {k : Nat} (hi : i = nI k) (hk : k < 3) : tref o i.toNatClampNeg = some (10 * k + o) := by
  subst hi
  rw [nI_clamp (by omega)]
  exact if_pos hk
end J8
end
section
/-! numbers of a grid, held exactly by doubles and floats: n * 2^e -/
/-- the datum of n * 2^e -/
def g_d (f : FP.Core.Fmt) (n e : Int) : FP.Core.Datum := FP.Core.round f (.fin (decide (n < 0)) n.natAbs e)
/-- n fits -/
def g_ok (f : FP.Core.Fmt) (n e : Int) : Prop := n.natAbs < 2 ^ f.p ∧ f.qmin ≤ e ∧ e ≤ f.qmax
theorem g_cancel {m k x y : Nat} (h : m * 2 ^ x = k * 2 ^ y) : m * 2 ^ (x - y) = k * 2 ^ (y - x) := by
  rcases Nat.le_total x y with q | q
  · rw [show x - y = 0 by omega, Nat.pow_zero, Nat.mul_one]
    refine Nat.eq_of_mul_eq_mul_right (Nat.two_pow_pos x) ?_
    rw [h, Nat.mul_assoc, ← Nat.pow_add, show y - x + x = y by omega]
  · rw [show y - x = 0 by omega, Nat.pow_zero, Nat.mul_one]
    refine Nat.eq_of_mul_eq_mul_right (Nat.two_pow_pos y) ?_
    rw [← h, Nat.mul_assoc, ← Nat.pow_add, show x - y + y = x by omega]
/-- a number of the grid, however it is written -/
theorem g_round {f : FP.Core.Fmt} {s : Bool} {m : Nat} {e1 n e e0 : Int} (h1 : e0 ≤ e1) (h2 : e0 ≤ e) (hs : s = decide (n < 0)) (hm : FP.Core.inUnits m e1 e0 = FP.Core.inUnits n.natAbs e e0) : FP.Core.round f (.fin s m e1) = g_d f n e := by
  subst hs
  show FP.Core.roundRatio f _ _ 1 _ = FP.Core.roundRatio f _ _ 1 _
  refine FP.Core.roundRatio_congr (by decide) (by decide) ?_
  unfold FP.Core.inUnits at hm
  have := g_cancel hm
  rw [Nat.mul_one, Nat.mul_one, show (e1 - e).toNat = (e1 - e0).toNat - (e - e0).toNat by omega, show (e - e1).toNat = (e - e0).toNat - (e1 - e0).toNat by omega]
  exact this
theorem g_fin {f : FP.Core.Fmt} (hf : FP.Core.Good f) {n e : Int} (h : g_ok f n e) : ∃ c q, g_d f n e = .fin (decide (n < 0)) c q ∧ FP.Core.fits f (.fin (decide (n < 0)) c q) ∧ FP.Core.inUnits c q f.qmin = FP.Core.inUnits n.natAbs e f.qmin := by
  obtain ⟨c, q, h1, h2⟩ := FP.Core.round_exact hf (decide (n < 0)) h.1 h.2.1 h.2.2
  exact ⟨c, q, h1, h1 ▸ FP.Core.round_fits hf _, h2⟩
theorem g_signed (n : Int) (k : Nat) : FP.Core.signed (decide (n < 0)) (n.natAbs * k) = n * (k : Int) := by
  rw [FP.Core.signed_mul]
  congr 1
  unfold FP.Core.signed
  by_cases h : n < 0 <;> simp [h] <;> omega
theorem g_zval {f : FP.Core.Fmt} (hf : FP.Core.Good f) {n e : Int} (h : g_ok f n e) : FP.Core.zval f (g_d f n e) = n * ((2 ^ (e - f.qmin).toNat : Nat) : Int) := by
  obtain ⟨c, q, h1, h2, h3⟩ := g_fin hf h
  rw [h1]
  show FP.Core.signed _ (FP.Core.inUnits c q f.qmin) = _
  rw [h3]
  exact g_signed n _
theorem g_nn {f : FP.Core.Fmt} (hf : FP.Core.Good f) {n e : Int} (h : g_ok f n e) : g_d f n e ≠ .nan := by
  obtain ⟨c, q, h1, h2, h3⟩ := g_fin hf h
  rw [h1]
  exact fun z => by cases z
theorem g_fits {f : FP.Core.Fmt} (hf : FP.Core.Good f) (n e : Int) : FP.Core.fits f (g_d f n e) := FP.Core.round_fits hf _
theorem g_sum {f : FP.Core.Fmt} (hf : FP.Core.Good f) {a b e : Int} (ha : g_ok f a e) (hb : g_ok f b e) : FP.Core.round f (FP.Core.exactSum (g_d f a e) (g_d f b e)) = g_d f (a + b) e := by
  obtain ⟨c, q, a1, a2, a3⟩ := g_fin hf ha
  obtain ⟨d, r, b1, b2, b3⟩ := g_fin hf hb
  rw [a1, b1]
  have hq := a2.2.1
  have hr := b2.2.1
  have key : FP.Core.sumUnits (decide (a < 0)) c q (decide (b < 0)) d r (min q r) * ((2 ^ (min q r - f.qmin).toNat : Nat) : Int) = (a + b) * ((2 ^ (e - f.qmin).toNat : Nat) : Int) := by
    unfold FP.Core.sumUnits
    rw [Int.add_mul, ← FP.Core.signed_mul, ← FP.Core.signed_mul, ← FP.Core.inUnits_move c (by omega) (by omega), ← FP.Core.inUnits_move d (by omega) (by omega), a3, b3, Int.add_mul]
    unfold FP.Core.inUnits
    rw [g_signed, g_signed]
  show FP.Core.round f (.fin (FP.Core.sumSign _ _ _) _ _) = _
  generalize FP.Core.sumUnits (decide (a < 0)) c q (decide (b < 0)) d r (min q r) = v at key
  have p1 : (0 : Int) < ((2 ^ (min q r - f.qmin).toNat : Nat) : Int) := by exact_mod_cast Nat.two_pow_pos _
  have p2 : (0 : Int) < ((2 ^ (e - f.qmin).toNat : Nat) : Int) := by exact_mod_cast Nat.two_pow_pos _
  have z0 : v = 0 ↔ a + b = 0 := by
    constructor
    · intro h
      rw [h, Int.zero_mul] at key
      rcases Int.mul_eq_zero.mp key.symm with h | h <;> omega
    · intro h
      rw [h, Int.zero_mul] at key
      rcases Int.mul_eq_zero.mp key with h | h <;> omega
  have z1 : v < 0 ↔ a + b < 0 := by
    constructor
    · intro h
      have := Int.mul_neg_of_neg_of_pos h p1
      rw [key] at this
      exact Int.lt_of_not_ge fun z => by have := Int.mul_nonneg z (Int.le_of_lt p2); omega
    · intro h
      have := Int.mul_neg_of_neg_of_pos h p2
      rw [← key] at this
      exact Int.lt_of_not_ge fun z => by have := Int.mul_nonneg z (Int.le_of_lt p1); omega
  refine g_round (e0 := f.qmin) (by omega) ha.2.1 ?_ ?_
  · unfold FP.Core.sumSign
    by_cases h : v = 0
    · rw [if_pos h]
      have := z0.mp h
      rw [show decide (a + b < 0) = false by simp; omega]
      by_cases h1 : a < 0 <;> by_cases h2 : b < 0 <;> simp [h1, h2] <;> omega
    · rw [if_neg h]
      simp [z1]
  · have := congrArg Int.natAbs key
    rw [Int.natAbs_mul, Int.natAbs_mul, Int.natAbs_natCast, Int.natAbs_natCast] at this
    exact this
theorem g_neg {f : FP.Core.Fmt} {a e : Int} (h : a ≠ 0) : FP.Core.negate (g_d f a e) = g_d f (-a) e := by
  unfold g_d
  rw [FP.Core.negate_round]
  show FP.Core.round f (.fin (!decide (a < 0)) a.natAbs e) = _
  rw [Int.natAbs_neg, show (!decide (a < 0)) = decide (-a < 0) by by_cases q : a < 0 <;> simp [q] <;> omega]
theorem g_prod {f : FP.Core.Fmt} (hf : FP.Core.Good f) {a b e g : Int} (ha : g_ok f a e) (hb : g_ok f b g) (hs : (decide (a < 0) != decide (b < 0)) = decide (a * b < 0)) : FP.Core.round f (FP.Core.exactProduct (g_d f a e) (g_d f b g)) = g_d f (a * b) (e + g) := by
  obtain ⟨c, q, a1, a2, a3⟩ := g_fin hf ha
  obtain ⟨d, r, b1, b2, b3⟩ := g_fin hf hb
  rw [a1, b1]
  have hq := a2.2.1
  have hr := b2.2.1
  have he := ha.2.1
  have hg := hb.2.1
  refine g_round (e0 := 2 * f.qmin) (by omega) (by omega) hs ?_
  have h3 := (FP.Core.product_units a2 b2).2.2
  rw [h3]
  show FP.Core.inUnits c q f.qmin * FP.Core.inUnits d r f.qmin = _
  rw [a3, b3, Int.natAbs_mul]
  unfold FP.Core.inUnits
  rw [show (e + g - 2 * f.qmin).toNat = (e - f.qmin).toNat + (g - f.qmin).toNat by omega, Nat.pow_add, Nat.mul_mul_mul_comm]
theorem g_quot {f : FP.Core.Fmt} (hf : FP.Core.Good f) {a b e g : Int} (ha : g_ok f (a * b) e) (hb : g_ok f b g) (hp : 0 < b) (he : f.qmin ≤ e - g) : FP.Core.quotient f (g_d f (a * b) e) (g_d f b g) = g_d f a (e - g) := by
  obtain ⟨c, q, a1, a2, a3⟩ := g_fin hf ha
  obtain ⟨d, r, b1, b2, b3⟩ := g_fin hf hb
  rw [a1, b1]
  have hq := a2.2.1
  have hr := b2.2.1
  have hb0 : decide (b < 0) = false := by simp; omega
  have hd0 : 0 < d := by
    rcases Nat.eq_zero_or_pos d with h | h
    · rw [h] at b3
      unfold FP.Core.inUnits at b3
      rw [Nat.zero_mul] at b3
      have := b3.symm
      rw [Nat.mul_eq_zero] at this
      have p := Nat.two_pow_pos (g - f.qmin).toNat
      omega
    · exact h
  show (if d = 0 then _ else FP.Core.roundRatio f (_ != _) c d (q - r)) = _
  rw [if_neg (by omega), hb0]
  have hsg : (decide (a * b < 0) != false) = decide (a < 0) := by
    by_cases h : a < 0
    · have := Int.mul_neg_of_neg_of_pos h hp
      simp [h, this]
    · have : 0 ≤ a * b := Int.mul_nonneg (by omega) (by omega)
      simp [h]
      omega
  rw [hsg]
  show _ = FP.Core.roundRatio f _ _ 1 _
  refine FP.Core.roundRatio_congr hd0 (by decide) ?_
  rw [Nat.mul_one]
  unfold FP.Core.inUnits at a3 b3
  rw [Int.natAbs_mul] at a3
  have hx : c * 2 ^ ((q - f.qmin).toNat + (g - f.qmin).toNat) = (a.natAbs * d) * 2 ^ ((r - f.qmin).toNat + (e - f.qmin).toNat) := by
    rw [Nat.pow_add, ← Nat.mul_assoc, a3, Nat.pow_add]
    calc a.natAbs * b.natAbs * 2 ^ (e - f.qmin).toNat * 2 ^ (g - f.qmin).toNat = a.natAbs * (b.natAbs * 2 ^ (g - f.qmin).toNat) * 2 ^ (e - f.qmin).toNat := by ac_rfl
      _ = a.natAbs * (d * 2 ^ (r - f.qmin).toNat) * 2 ^ (e - f.qmin).toNat := by rw [b3]
      _ = a.natAbs * d * (2 ^ (r - f.qmin).toNat * 2 ^ (e - f.qmin).toNat) := by ac_rfl
  have := g_cancel hx
  have h1 := ha.2.1
  have h2 := hb.2.1
  rw [show (q - r - (e - g)).toNat = (q - f.qmin).toNat + (g - f.qmin).toNat - ((r - f.qmin).toNat + (e - f.qmin).toNat) by omega, show (e - g - (q - r)).toNat = (r - f.qmin).toNat + (e - f.qmin).toNat - ((q - f.qmin).toNat + (g - f.qmin).toNat) by omega]
  exact this
theorem g_scale {f : FP.Core.Fmt} {n e : Int} (k : Nat) (h : f.qmin ≤ e) : g_d f (n * ((2 ^ k : Nat) : Int)) e = g_d f n (e + k) := by
  have hp : (0 : Int) < ((2 ^ k : Nat) : Int) := by exact_mod_cast Nat.two_pow_pos k
  refine g_round (e0 := f.qmin) h (by omega) ?_ ?_
  · by_cases q : n < 0
    · have := Int.mul_neg_of_neg_of_pos q hp
      simp only [q, this, decide_true]
    · have : ¬ n * ((2 ^ k : Nat) : Int) < 0 := by have := Int.mul_nonneg (a := n) (by omega) (Int.le_of_lt hp); omega
      simp only [q, this, decide_false]
  · unfold FP.Core.inUnits
    rw [Int.natAbs_mul, Int.natAbs_natCast, show (e + k - f.qmin).toNat = k + (e - f.qmin).toNat by omega, Nat.pow_add, Nat.mul_assoc]
/-- the double n / 4096 -/
def dv (n : Int) : UInt64 := FP.Core.of64 (g_d FP.Core.b64 n (-12))
/-- the float n / 4 -/
def fv (n : Int) : UInt32 := FP.Core.of32 (g_d FP.Core.b32 n (-2))
theorem dv_val (n : Int) : FP.Core.val64 (dv n) = g_d FP.Core.b64 n (-12) := FP.Core.val64_of64 (g_fits FP.Core.good_b64 _ _)
theorem fv_val (n : Int) : FP.Core.val32 (fv n) = g_d FP.Core.b32 n (-2) := FP.Core.val32_of32 (g_fits FP.Core.good_b32 _ _)
def dB (n : Int) : Prop := n.natAbs < 2 ^ 53
def fB (n : Int) : Prop := n.natAbs < 2 ^ 24
theorem dB_ok {n : Int} (e : Int) (h : dB n) (h1 : -1074 ≤ e) (h2 : e ≤ 971) : g_ok FP.Core.b64 n e := ⟨h, h1, h2⟩
theorem fB_ok {n : Int} (e : Int) (h : fB n) (h1 : -149 ≤ e) (h2 : e ≤ 104) : g_ok FP.Core.b32 n e := ⟨h, h1, h2⟩
theorem dv_ok {n : Int} (h : dB n) : g_ok FP.Core.b64 n (-12) := dB_ok _ h (by decide) (by decide)
theorem fv_ok {n : Int} (h : fB n) : g_ok FP.Core.b32 n (-2) := fB_ok _ h (by decide) (by decide)
theorem dv_nn {n : Int} (h : dB n) : FP.Core.val64 (dv n) ≠ .nan := by rw [dv_val]; exact g_nn FP.Core.good_b64 (dv_ok h)
theorem fv_nn {n : Int} (h : fB n) : FP.Core.val32 (fv n) ≠ .nan := by rw [fv_val]; exact g_nn FP.Core.good_b32 (fv_ok h)
theorem dv_nn' (n : Int) : FP.Core.val64 (dv n) ≠ .nan := by rw [dv_val]; exact FP.Core.roundRatio_ne_nan _ _ _ _ _
theorem fv_nn' (n : Int) : FP.Core.val32 (fv n) ≠ .nan := by rw [fv_val]; exact FP.Core.roundRatio_ne_nan _ _ _ _ _
theorem vf_of64 {x : UInt64} (h : FP.Core.val64 x ≠ .nan) : vf_n64 x := by
  have h1 := (FP.Core.ne_nan x).mp h
  unfold vf_n64
  rw [UInt64.le_iff_toNat_le, UInt64.toNat_and]
  rw [show (0x7fffffffffffffff : UInt64).toNat = 2 ^ 63 - 1 from rfl, Nat.and_two_pow_sub_one_eq_mod]
  exact h1
theorem dv_n (n : Int) : vf_n64 (dv n) := vf_of64 (dv_nn' n)
theorem dv_add {a b : Int} (ha : dB a) (hb : dB b) : FP.dadd (dv a) (dv b) = dv (a + b) := by
  have h : FP.Core.val64 (dv (a + b)) = FP.Core.val64 (FP.Core.dadd (dv a) (dv b)) := by
    rw [FP.Core.val64_dadd, dv_val, dv_val, dv_val, g_sum FP.Core.good_b64 (dv_ok ha) (dv_ok hb)]
  exact (FP.Core.val64_inj (dv_nn' _) h).symm
theorem dv_sub {a b : Int} (ha : dB a) (hb : dB b) : FP.dsub (dv a) (dv b) = dv (a - b) := by
  by_cases h0 : b = 0
  · subst h0
    show FP.Core.dsub (dv a) (dv 0) = _
    rw [FP.Core.dsub_eq, show FP.Core.dneg (dv 0) = FP.Core.dzeroNeg by decide +kernel, FP.Core.dadd_zeroNeg (dv_nn' a), Int.sub_zero]
  · have h : FP.Core.val64 (dv (a - b)) = FP.Core.val64 (FP.Core.dsub (dv a) (dv b)) := by
      rw [FP.Core.val64_dsub, dv_val, dv_val, dv_val, g_neg h0, g_sum FP.Core.good_b64 (dv_ok ha) (dv_ok (show dB (-b) by unfold dB at hb ⊢; omega)), Int.sub_eq_add_neg]
    exact (FP.Core.val64_inj (dv_nn' _) h).symm
theorem dv_mul {a b c : Int} (ha : dB a) (hb : dB b) (hs : (decide (a < 0) != decide (b < 0)) = decide (a * b < 0)) (hc : a * b = c * 4096) : FP.dmul (dv a) (dv b) = dv c := by
  have h : FP.Core.val64 (dv c) = FP.Core.val64 (FP.Core.dmul (dv a) (dv b)) := by
    rw [FP.Core.val64_dmul, dv_val, dv_val, dv_val, g_prod FP.Core.good_b64 (dv_ok ha) (dv_ok hb) hs, hc]
    have h2 : g_d FP.Core.b64 (c * ((2 ^ 12 : Nat) : Int)) (-24) = g_d FP.Core.b64 c (-24 + ((12 : Nat) : Int)) := g_scale (n := c) (e := -24) 12 (by decide)
    rw [show ((2 ^ 12 : Nat) : Int) = 4096 by decide, show (-24 + ((12 : Nat) : Int)) = -12 by decide] at h2
    rw [show (-12 + -12 : Int) = -24 by decide]
    exact h2.symm
  exact (FP.Core.val64_inj (dv_nn' _) h).symm
theorem dv_mul' {a b c : Int} (ha : dB a) (hb : dB b) (h1 : 0 ≤ a) (h2 : 0 ≤ b) (hc : a * b = c * 4096) : FP.dmul (dv a) (dv b) = dv c := by
  refine dv_mul ha hb ?_ hc
  have := Int.mul_nonneg h1 h2
  rw [show decide (a < 0) = false by simp; omega, show decide (b < 0) = false by simp; omega, show decide (a * b < 0) = false by simp; omega]
  rfl
/-- a whole number as a double -/
theorem i2d_val (x : Int32) : FP.Core.val64 (FP.i2d x) = g_d FP.Core.b64 x.toInt 0 := FP.Core.val64_i2d x
theorem i2d_dv (x : Int32) : FP.i2d x = dv (x.toInt * 4096) := by
  have h : FP.Core.val64 (dv (x.toInt * 4096)) = FP.Core.val64 (FP.i2d x) := by
    rw [i2d_val, dv_val]
    exact g_scale 12 (by decide)
  exact (FP.Core.val64_inj (dv_nn' _) h).symm
theorem dv_div {a : Int} {x : Int32} (ha : dB (a * x.toInt)) (hx : 0 < x.toInt) : FP.ddiv (dv (a * x.toInt)) (FP.i2d x) = dv a := by
  have hb : dB x.toInt := by
    have := x.toInt_lt
    have := x.le_toInt
    unfold dB
    omega
  have h : FP.Core.val64 (dv a) = FP.Core.val64 (FP.Core.ddiv (dv (a * x.toInt)) (FP.Core.i2d x)) := by
    rw [FP.Core.val64_ddiv, dv_val, dv_val, show FP.Core.val64 (FP.Core.i2d x) = g_d FP.Core.b64 x.toInt 0 from i2d_val x]
    exact (g_quot FP.Core.good_b64 (dv_ok ha) (dB_ok 0 hb (by decide) (by decide)) hx (by decide)).symm
  exact (FP.Core.val64_inj (dv_nn' _) h).symm
theorem fv_add {a b : Int} (ha : fB a) (hb : fB b) : FP.fadd (fv a) (fv b) = fv (a + b) := by
  have h : FP.Core.val32 (fv (a + b)) = FP.Core.val32 (FP.Core.fadd (fv a) (fv b)) := by
    rw [FP.Core.val32_fadd, fv_val, fv_val, fv_val, g_sum FP.Core.good_b32 (fv_ok ha) (fv_ok hb)]
  exact (FP.Core.val32_inj (fv_nn' _) h).symm
theorem vf_of32 {x : UInt32} (h : FP.Core.val32 x ≠ .nan) : vf_n32 x := by
  have h1 := (FP.Core.ne_nan32 x).mp h
  unfold vf_n32
  rw [UInt32.le_iff_toNat_le, UInt32.toNat_and]
  rw [show (0x7fffffff : UInt32).toNat = 2 ^ 31 - 1 from rfl, Nat.and_two_pow_sub_one_eq_mod]
  exact h1
theorem fv_n (n : Int) : vf_n32 (fv n) := vf_of32 (fv_nn' n)
/-- quarters, and halves of a whole number, as floats -/
theorem fv_quarters (x : Int32) (hx : fB x.toInt) (h0 : 0 ≤ x.toInt) : FP.fmul (FP.i2f x) 1048576000 = fv x.toInt := by
  have hq : FP.Core.val32 (1048576000 : UInt32) = g_d FP.Core.b32 1 (-2) := by decide +kernel
  have h : FP.Core.val32 (fv x.toInt) = FP.Core.val32 (FP.Core.fmul (FP.Core.i2f x) 1048576000) := by
    rw [FP.Core.val32_fmul, hq, show FP.Core.val32 (FP.Core.i2f x) = g_d FP.Core.b32 x.toInt 0 from FP.Core.val32_i2f x, g_prod FP.Core.good_b32 (fB_ok 0 hx (by decide) (by decide)) (fB_ok (-2) (show fB 1 by unfold fB; decide) (by decide) (by decide)) (by rw [show decide (x.toInt < 0) = false by simp; omega, show decide (x.toInt * 1 < 0) = false by simp; omega]; rfl), fv_val, Int.mul_one]
    rfl
  exact (FP.Core.val32_inj (fv_nn' _) h).symm
theorem fv_halves (x : Int32) (hx : fB x.toInt) (h0 : 0 ≤ x.toInt) : FP.fmul 1056964608 (FP.i2f x) = fv (x.toInt * 2) := by
  have hq : FP.Core.val32 (1056964608 : UInt32) = g_d FP.Core.b32 1 (-1) := by decide +kernel
  have h : FP.Core.val32 (fv (x.toInt * 2)) = FP.Core.val32 (FP.Core.fmul 1056964608 (FP.Core.i2f x)) := by
    rw [FP.Core.val32_fmul, hq, show FP.Core.val32 (FP.Core.i2f x) = g_d FP.Core.b32 x.toInt 0 from FP.Core.val32_i2f x, g_prod FP.Core.good_b32 (fB_ok (-1) (show fB 1 by unfold fB; decide) (by decide) (by decide)) (fB_ok 0 hx (by decide) (by decide)) (by rw [show decide (x.toInt < 0) = false by simp; omega, show decide (1 * x.toInt < 0) = false by simp; omega]; rfl), fv_val, Int.one_mul]
    exact g_scale 1 (by decide)
  exact (FP.Core.val32_inj (fv_nn' _) h).symm
/-- a float as a double -/
theorem f2d_dv {n : Int} (hn : fB n) : FP.f2d (fv n) = dv (n * 1024) := by
  have hnn : FP.Core.fIsNaN (fv n) = false := by
    rw [show FP.Core.fIsNaN (fv n) = decide (FP.Core.val32 (fv n) = .nan) from rfl]
    exact decide_eq_false (fv_nn' n)
  have h : FP.Core.val64 (dv (n * 1024)) = FP.Core.val64 (FP.Core.f2d (fv n)) := by
    rw [FP.Core.val64_f2d, fv_val, dv_val]
    obtain ⟨c, q, h1, h2, h3⟩ := g_fin FP.Core.good_b32 (fv_ok hn)
    rw [h1]
    have h4 := h2.2.1
    rw [show g_d FP.Core.b64 (n * 1024) (-12) = g_d FP.Core.b64 n (-2) from g_scale 10 (by decide)]
    exact (g_round (e0 := FP.Core.b32.qmin) h4 (by decide) rfl h3).symm
  unfold FP.f2d
  rw [hnn]
  exact (FP.Core.val64_inj (dv_nn' _) h).symm
theorem dv_0 : FP.dconst0 = dv 0 := by decide +kernel
theorem dv_1 : FP.dconst1 = dv 4096 := by decide +kernel
theorem fv_1 : FP.fconst1 = fv 4 := by decide +kernel
theorem fv_2 : FP.fconst2 = fv 8 := by decide +kernel
theorem dv_cmp {a b : Int} (ha : dB a) (hb : dB b) : FP.dcmp (dv a) (dv b) = some (compare a b) := by
  show FP.Core.order (FP.Core.val64 (dv a)) (FP.Core.val64 (dv b)) = _
  rw [FP.Core.order_zval FP.Core.good_b64 (FP.Core.val64_fits _) (FP.Core.val64_fits _) (dv_nn ha) (dv_nn hb), dv_val, dv_val, g_zval FP.Core.good_b64 (dv_ok ha), g_zval FP.Core.good_b64 (dv_ok hb), FP.Core.compare_mul_pos _ _ _ (by exact_mod_cast Nat.two_pow_pos _)]
end
section
/-! numbers of the grid in the little machine -/
theorem nI_mul (a b : Nat) : nI a * nI b = nI (a * b) := (Int32.ofNat_mul a b).symm
/-- what a comparison of two doubles of the grid leaves -/
def cmpI (a b : Int) : Int32 := if a < b then -1 else if a = b then 0 else 1
theorem cmpI_of {a b : Int} (ha : dB a) (hb : dB b) (op : CmpOp) : Op.cmpValue (FP.dcmp (dv a) (dv b)) op = cmpI a b := by
  rw [dv_cmp ha hb]
  unfold cmpI compare
  show Op.cmpValue (some (compareOfLessAndEq a b)) op = _
  unfold compareOfLessAndEq
  by_cases h : a < b
  · rw [if_pos h, if_pos h]
    cases op <;> rfl
  · rw [if_neg h, if_neg h]
    by_cases h2 : a = b
    · rw [if_pos h2, if_pos h2]
      cases op <;> rfl
    · rw [if_neg h2, if_neg h2]
      cases op <;> rfl
theorem cmpI_gt {a b : Int} : 0 < cmpI a b ↔ b < a := by
  unfold cmpI
  by_cases h : a < b
  · rw [if_pos h]
    exact ⟨fun q => absurd q (by decide), fun q => by omega⟩
  · rw [if_neg h]
    by_cases h2 : a = b
    · rw [if_pos h2]
      exact ⟨fun q => absurd q (by decide), fun q => by omega⟩
    · rw [if_neg h2]
      exact ⟨fun _ => by omega, fun _ => by decide⟩
theorem cmpI_lt {a b : Int} : cmpI a b < 0 ↔ a < b := by
  unfold cmpI
  by_cases h : a < b
  · rw [if_pos h]
    exact ⟨fun _ => h, fun _ => by decide⟩
  · rw [if_neg h]
    by_cases h2 : a = b
    · rw [if_pos h2]
      exact ⟨fun q => absurd q (by decide), fun q => by omega⟩
    · rw [if_neg h2]
      exact ⟨fun q => absurd q (by decide), fun q => by omega⟩
theorem cmpI_eq {a b : Int} : cmpI a b = 0 ↔ a = b := by
  unfold cmpI
  by_cases h : a < b
  · rw [if_pos h]
    exact ⟨fun q => absurd q (by decide), fun q => by omega⟩
  · rw [if_neg h]
    by_cases h2 : a = b
    · rw [if_pos h2]
      exact ⟨fun _ => h2, fun _ => rfl⟩
    · rw [if_neg h2]
      exact ⟨fun q => absurd q (by decide), fun q => absurd q h2⟩
section L1
variable {l : Launch} {D : va_G} {ad : Nat → Nat} {tc : Nat → ClassId} {L : Nat} {xs : Nat → Int32} {M : j_M} {d lo pc : Nat} {lv : j_L} {st : List Value} {h h' : j_H} {r : Option Value}
theorem rn_topi {x y : Int32} (e : x = y) (k : Rn l D ad tc L xs M d lo pc lv (.int y :: st) h r h') : Rn l D ad tc L xs M d lo pc lv (.int x :: st) h r h' := e ▸ k
theorem rn_topd {x y : UInt64} (e : x = y) (k : Rn l D ad tc L xs M d lo pc lv (.double y :: st) h r h') : Rn l D ad tc L xs M d lo pc lv (.double x :: st) h r h' := e ▸ k
theorem rn_topf {x y : UInt32} (e : x = y) (k : Rn l D ad tc L xs M d lo pc lv (.float y :: st) h r h') : Rn l D ad tc L xs M d lo pc lv (.float x :: st) h r h' := e ▸ k
theorem rn_daddv {a b : Int} (hd : decode M.2.1 pc = .ok (.dadd, 1)) (ha : dB a) (hb : dB b) (k : Rn l D ad tc L xs M d lo (pc + 1) lv (.double (dv (a + b)) :: st) h r h') : Rn l D ad tc L xs M d lo pc lv (.double (dv b) :: .double (dv a) :: st) h r h' :=
  rn_dadd hd (by rw [dv_add ha hb]; exact dv_n _) (rn_topd (dv_add ha hb) k)
theorem rn_dsubv {a b : Int} (hd : decode M.2.1 pc = .ok (.dsub, 1)) (ha : dB a) (hb : dB b) (k : Rn l D ad tc L xs M d lo (pc + 1) lv (.double (dv (a - b)) :: st) h r h') : Rn l D ad tc L xs M d lo pc lv (.double (dv b) :: .double (dv a) :: st) h r h' :=
  rn_dsub hd (by rw [dv_sub ha hb]; exact dv_n _) (rn_topd (dv_sub ha hb) k)
theorem rn_dmulv {a b c : Int} (hd : decode M.2.1 pc = .ok (.dmul, 1)) (ha : dB a) (hb : dB b) (h1 : 0 ≤ a) (h2 : 0 ≤ b) (hc : a * b = c * 4096) (k : Rn l D ad tc L xs M d lo (pc + 1) lv (.double (dv c) :: st) h r h') : Rn l D ad tc L xs M d lo pc lv (.double (dv b) :: .double (dv a) :: st) h r h' :=
  rn_dmul hd (by rw [dv_mul' ha hb h1 h2 hc]; exact dv_n _) (rn_topd (dv_mul' ha hb h1 h2 hc) k)
theorem rn_dcmpv {a b : Int} {op : CmpOp} (hd : decode M.2.1 pc = .ok (.dcmp op, 1)) (ha : dB a) (hb : dB b) (k : Rn l D ad tc L xs M d lo (pc + 1) lv (.int (cmpI a b) :: st) h r h') : Rn l D ad tc L xs M d lo pc lv (.double (dv b) :: .double (dv a) :: st) h r h' :=
  rn_dcmp hd (rn_topi (cmpI_of ha hb op) k)
theorem rn_i2dv {x : Int32} (hd : decode M.2.1 pc = .ok (.i2d, 1)) (k : Rn l D ad tc L xs M d lo (pc + 1) lv (.double (dv (x.toInt * 4096)) :: st) h r h') : Rn l D ad tc L xs M d lo pc lv (.int x :: st) h r h' :=
  rn_i2d hd (rn_topd (i2d_dv x) k)
theorem rn_dcon {v : UInt64} {n index : Nat} {m : Int} (hd : decode M.2.1 pc = .ok (.ldc2_w index, 3)) (hw : Cond.constantDouble M.1.cls index v ∈ j_all) (he : v = dv m) (k : Rn l D ad tc L xs M d lo (pc + 3) lv (.double (dv m) :: st) h r h') : Rn l D ad tc L xs M d lo pc lv st h r h' :=
  rn_ldc2d hd hw (rn_topd he k)
theorem rn_dcon0 (hd : decode M.2.1 pc = .ok (.dconst 0, 1)) (k : Rn l D ad tc L xs M d lo (pc + 1) lv (.double (dv 0) :: st) h r h') : Rn l D ad tc L xs M d lo pc lv st h r h' :=
  rn_dconst0 hd (rn_topd dv_0 k)
theorem rn_dcon1 (hd : decode M.2.1 pc = .ok (.dconst 1, 1)) (k : Rn l D ad tc L xs M d lo (pc + 1) lv (.double (dv 4096) :: st) h r h') : Rn l D ad tc L xs M d lo pc lv st h r h' :=
  rn_dconst1 hd (rn_topd dv_1 k)
/-- the locals as listed -/
theorem rn_subg {lv' : j_L} (hs : lv'.map (fun q => j_g lv q.1) = lv'.map (fun q => some q.2)) (k : Rn l D ad tc L xs M d lo pc lv' st h r h') : Rn l D ad tc L xs M d lo pc lv st h r h' := by
  refine rn_sub (fun q hq => ?_) k
  obtain ⟨i, hi⟩ := List.getElem?_of_mem hq
  have e := congrArg (fun z => z[i]?) hs
  simp only [List.getElem?_map, hi, Option.map_some] at e
  exact j_g_mem (Option.some.inj e)

theorem dB_0 : dB 0 := by unfold dB; decide
theorem dB_of {n : Int} (h1 : -9007199254740992 < n) (h2 : n < 9007199254740992) : dB n := by unfold dB; omega
end L1
end
section
/-! what is told, and what is reckoned of it: over the state's own numbers -/
abbrev kd (S : jS) (i : Nat) : Int32 := sI S (i + 13) 0
abbrev fe1 (S : jS) (i : Nat) : Int32 := sI S (i + 13) 1
abbrev fe2 (S : jS) (i : Nat) : Int32 := sI S (i + 13) 2
abbrev stB (S : jS) (i : Nat) : Bool := decide (sI S (i + 13) 0 = 0 ∨ sI S (i + 13) 0 = 6 ∨ sI S (i + 13) 0 = 7)
abbrev enB (S : jS) (i : Nat) : Bool := decide (sI S (i + 13) 0 = 6 ∨ sI S (i + 13) 0 = 7 ∨ sI S (i + 13) 0 = 8)
abbrev gaB (S : jS) (i : Nat) : Bool := decide (1 ≤ sI S (i + 13) 0 ∧ sI S (i + 13) 0 ≤ 5)
/-- n nodes, nr rules, nc corners, nk clocks are told, and well -/
def Told (S : jS) (n nr nc nk : Nat) : Prop :=
  (sI S 1 6 = nI n ∧ n ≤ 16) ∧ (sI S 1 7 = nI nr ∧ nr ≤ 6) ∧ (sI S 1 5 = nI nc ∧ 1 ≤ nc ∧ nc ≤ 3) ∧ (sI S 1 4 = nI nk ∧ nk ≤ 4) ∧ (∀ i, i < 16 → sV S i < 4) ∧
  (∀ i, i < n → (0 ≤ kd S i ∧ kd S i ≤ 8) ∧ (fe1 S i = -1 ∨ ∃ a, a < n ∧ fe1 S i = nI a) ∧ (kd S i ≠ 6 → fe1 S i = -1 ∨ ∃ a, a < i ∧ fe1 S i = nI a) ∧ (fe2 S i = -1 ∨ ∃ b, b < i ∧ fe2 S i = nI b)) ∧
  (∀ i, i < 16 → (sI S (i + 13) 5 = 1 ∨ sI S (i + 13) 5 = 2 ∨ sI S (i + 13) 5 = 4) ∧ (∃ w : Nat, w ≤ 80 ∧ sF S (i + 13) 6 = fv w) ∧ (∃ w : Nat, w ≤ 20 ∧ sI S (i + 13) 7 = nI w)) ∧
  (∀ v, v < 4 → (∃ w : Nat, w ≤ 160 ∧ sI S (v + 6) 0 = nI w) ∧ (∃ w : Nat, w ≤ 100 ∧ sI S (v + 6) 1 = nI w) ∧ (∃ w : Nat, w ≤ 20 ∧ sI S (v + 6) 2 = nI w)) ∧
  (∀ c, c < 3 → (∃ k : Nat, 8 ≤ k ∧ k ≤ 16 ∧ sD S (c + 10) 0 = dv (512 * k)) ∧ ∃ k : Nat, 1 ≤ k ∧ k ≤ 8 ∧ sD S (c + 10) 1 = dv (512 * k)) ∧
  (∀ k, k < 6 → sI S (k + 29) 0 = 0 ∨ ∃ m : Nat, 2 ≤ m ∧ m ≤ 4 ∧ sI S (k + 29) 0 = nI m)
/-- the told part alone -/
def tP (S : jS) : jS := (fun k f => if k < 35 then S.1 k f else 0, fun _ _ => 0, fun k f => if k < 13 then S.2.2.1 k f else 0, fun k f => if k < 35 then S.2.2.2.1 k f else 0, S.2.2.2.2)
theorem tP_A {S : jS} {k : Nat} {g : Nat → Int32} : tP (pA S k g) = tP S := rfl
theorem tP_I {S : jS} {k f : Nat} {v : Int32} (h : 35 ≤ k) : tP (pI S k f v) = tP S := by
  unfold tP pI
  congr 1
  funext a b
  by_cases h2 : a < 35
  · simp [h2, up2, show a ≠ k by omega]
  · simp [h2]
theorem tP_D {S : jS} {k : Nat} {g : Nat → UInt64} (h : 13 ≤ k) : tP (pD S k g) = tP S := by
  unfold tP pD
  congr 3
  funext a b
  by_cases h2 : a < 13
  · simp [h2, up1, show a ≠ k by omega]
  · simp [h2]
theorem tP_F {S : jS} {k : Nat} {g : Nat → UInt32} (h : 35 ≤ k) : tP (pF S k g) = tP S := by
  unfold tP pF
  congr 4
  funext a b
  by_cases h2 : a < 35
  · simp [h2, up1, show a ≠ k by omega]
  · simp [h2]
/-- bit s of the row's entry i -/
def bitR (R : Nat → Int32) (s i : Nat) : Bool := decide ((R i >>> (nI s &&& 31)) &&& 1 ≠ 0)
def mCome (S : jS) (R : Nat → Int32) (s e : Nat) : Bool := enB S e && decide (fe1 S e ≠ -1) && bitR R s (fe1 S e).toNatClampNeg
def mWeight (S : jS) (k : Nat) : Int32 := (if sI S (k + 29) 0 = 0 then 4 else 0) + (if sI S (k + 29) 1 = -1 then 0 else 2) + (if sI S (k + 29) 2 = -1 then 0 else 1)
def mFits (S : jS) (k : Nat) (s e : Int32) : Bool := decide ((sI S (k + 29) 1 = -1 ∨ sI S (k + 29) 1 = s) ∧ (sI S (k + 29) 2 = -1 ∨ sI S (k + 29) 2 = e))
/-- the winner among the first k rules, and its weight -/
def mWin (S : jS) (s e : Int32) : Nat → Int32 × Int32
  | 0 => (-1, 0)
  | k + 1 => if mFits S k s e = true ∧ ¬ mWeight S k < (mWin S s e k).2 then (nI k, mWeight S k) else mWin S s e k
theorem mWin_r (S : jS) (s e : Int32) : ∀ k, (mWin S s e k).1 = -1 ∨ ∃ i, i < k ∧ (mWin S s e k).1 = nI i
  | 0 => Or.inl rfl
  | k + 1 => by
    unfold mWin
    split
    · exact Or.inr ⟨k, by omega, rfl⟩
    · rcases mWin_r S s e k with h | ⟨i, h1, h2⟩
      · exact Or.inl h
      · exact Or.inr ⟨i, by omega, h2⟩
def mGrp (S : jS) (s e : Nat) : Bool := decide (sI S (sV S s + 6) 3 = sI S (sV S e + 6) 3)
/-- the sort that wins: 1 without one -/
def mSort (S : jS) (s e nr : Nat) : Int32 := if (mWin S (nI s) (nI e) nr).1 = -1 then 1 else sI S ((mWin S (nI s) (nI e) nr).1.toNatClampNeg + 29) 0
def mChk (S : jS) (R : Nat → Int32) (nr s e : Nat) : Bool := mCome S R s e && mGrp S s e && decide (mSort S s e nr ≠ 0)
def mGap (S : jS) (s e nr : Nat) : Int32 := nI (Nat.gcd (sI S (sV S s + 6) 0).toNatClampNeg (sI S (sV S e + 6) 0).toNatClampNeg) + (mSort S s e nr - 1) * sI S (sV S e + 6) 0
end
section
/-! leaves: methods that call none, or leaves alone -/
section L2
variable {l : Launch} {D : va_G} {ad : Nat → Nat} {tc : Nat → ClassId} {L : Nat} {xs : Nat → Int32} {S : jS} {E : List j_C} {sl : Nat}
set_option maxRecDepth 20000 in
theorem c_X1_hasNode {v : Int32} : Cn l D ad tc L xs mX1_hasNode 0 0 [.ref 2, .int v] (wd S E, sl) (some (.int (bI (decide (0 ≤ v ∧ v < sI S 1 6))))) (wd S E, sl) := by
  refine cn_of (lv0 := [(0, .ref 2), (1, .int v)]) (by decide +kernel) ⟨_, rfl, bI_nar _⟩ (fun _ => by simp [lg_sl, j_v, Value.category]) (fun _ => rfl) ?_
  refine rn_iload_n dX1_hasNode_0 rfl ?_
  refine rn_if_lt (tgt := 16) dX1_hasNode_1 rfl (fun q1 => ?_) (fun q1 => ?_)
  · refine rn_iconst (v := 0) dX1_hasNode_16 rfl ?_
    exact rn_ret dX1_hasNode_17 trivial (by simp_all [bI, Int32.le_iff_toInt_le, Int32.lt_iff_toInt_lt] <;> omega)
  · refine rn_iload_n dX1_hasNode_4 rfl ?_
    refine rn_aload_n dX1_hasNode_5 rfl ?_
    refine rn_getfield dX1_hasNode_6 fo_X1_48 h_chip rfl ?_
    refine rn_icmp_ge (tgt := 16) dX1_hasNode_9 rfl (fun q2 => ?_) (fun q2 => ?_)
    · refine rn_iconst (v := 0) dX1_hasNode_16 rfl ?_
      exact rn_ret dX1_hasNode_17 trivial (by simp_all [bI, Int32.le_iff_toInt_le, Int32.lt_iff_toInt_lt] <;> omega)
    · refine rn_iconst (v := 1) dX1_hasNode_12 rfl ?_
      refine rn_goto (tgt := 17) dX1_hasNode_13 rfl ?_
      exact rn_ret dX1_hasNode_17 trivial (by simp_all [bI, Int32.le_iff_toInt_le, Int32.lt_iff_toInt_lt] <;> omega)
set_option maxRecDepth 20000 in
theorem c_X1_hasClock {v : Int32} : Cn l D ad tc L xs mX1_hasClock 0 0 [.ref 2, .int v] (wd S E, sl) (some (.int (bI (decide (0 ≤ v ∧ v < sI S 1 4))))) (wd S E, sl) := by
  refine cn_of (lv0 := [(0, .ref 2), (1, .int v)]) (by decide +kernel) ⟨_, rfl, bI_nar _⟩ (fun _ => by simp [lg_sl, j_v, Value.category]) (fun _ => rfl) ?_
  refine rn_iload_n dX1_hasClock_0 rfl ?_
  refine rn_if_lt (tgt := 16) dX1_hasClock_1 rfl (fun q1 => ?_) (fun q1 => ?_)
  · refine rn_iconst (v := 0) dX1_hasClock_16 rfl ?_
    exact rn_ret dX1_hasClock_17 trivial (by simp_all [bI, Int32.le_iff_toInt_le, Int32.lt_iff_toInt_lt] <;> omega)
  · refine rn_iload_n dX1_hasClock_4 rfl ?_
    refine rn_aload_n dX1_hasClock_5 rfl ?_
    refine rn_getfield dX1_hasClock_6 fo_X1_45 h_chip rfl ?_
    refine rn_icmp_ge (tgt := 16) dX1_hasClock_9 rfl (fun q2 => ?_) (fun q2 => ?_)
    · refine rn_iconst (v := 0) dX1_hasClock_16 rfl ?_
      exact rn_ret dX1_hasClock_17 trivial (by simp_all [bI, Int32.le_iff_toInt_le, Int32.lt_iff_toInt_lt] <;> omega)
    · refine rn_iconst (v := 1) dX1_hasClock_12 rfl ?_
      refine rn_goto (tgt := 17) dX1_hasClock_13 rfl ?_
      exact rn_ret dX1_hasClock_17 trivial (by simp_all [bI, Int32.le_iff_toInt_le, Int32.lt_iff_toInt_lt] <;> omega)
set_option maxRecDepth 20000 in
theorem c_X1_hasCorner {v : Int32} : Cn l D ad tc L xs mX1_hasCorner 0 0 [.ref 2, .int v] (wd S E, sl) (some (.int (bI (decide (0 ≤ v ∧ v < sI S 1 5))))) (wd S E, sl) := by
  refine cn_of (lv0 := [(0, .ref 2), (1, .int v)]) (by decide +kernel) ⟨_, rfl, bI_nar _⟩ (fun _ => by simp [lg_sl, j_v, Value.category]) (fun _ => rfl) ?_
  refine rn_iload_n dX1_hasCorner_0 rfl ?_
  refine rn_if_lt (tgt := 16) dX1_hasCorner_1 rfl (fun q1 => ?_) (fun q1 => ?_)
  · refine rn_iconst (v := 0) dX1_hasCorner_16 rfl ?_
    exact rn_ret dX1_hasCorner_17 trivial (by simp_all [bI, Int32.le_iff_toInt_le, Int32.lt_iff_toInt_lt] <;> omega)
  · refine rn_iload_n dX1_hasCorner_4 rfl ?_
    refine rn_aload_n dX1_hasCorner_5 rfl ?_
    refine rn_getfield dX1_hasCorner_6 fo_X1_35 h_chip rfl ?_
    refine rn_icmp_ge (tgt := 16) dX1_hasCorner_9 rfl (fun q2 => ?_) (fun q2 => ?_)
    · refine rn_iconst (v := 0) dX1_hasCorner_16 rfl ?_
      exact rn_ret dX1_hasCorner_17 trivial (by simp_all [bI, Int32.le_iff_toInt_le, Int32.lt_iff_toInt_lt] <;> omega)
    · refine rn_iconst (v := 1) dX1_hasCorner_12 rfl ?_
      refine rn_goto (tgt := 17) dX1_hasCorner_13 rfl ?_
      exact rn_ret dX1_hasCorner_17 trivial (by simp_all [bI, Int32.le_iff_toInt_le, Int32.lt_iff_toInt_lt] <;> omega)
set_option maxRecDepth 20000 in
theorem c_X5_isStart {i : Nat} (hi : i < 16) : Cn l D ad tc L xs mX5_isStart 0 0 [.ref (i + 14)] (wd S E, sl) (some (.int (bI (decide (sI S (i + 13) 0 = 0 ∨ sI S (i + 13) 0 = 6 ∨ sI S (i + 13) 0 = 7))))) (wd S E, sl) := by
  refine cn_of (lv0 := [(0, .ref (i + 14))]) (by decide +kernel) ⟨_, rfl, bI_nar _⟩ (fun _ => by simp [lg_sl, j_v, Value.category]) (fun _ => rfl) ?_
  refine rn_aload_n dX5_isStart_0 rfl ?_
  refine rn_getfield dX5_isStart_1 fo_X5_32 (h_node (by omega)) rfl ?_
  refine rn_if_eq (tgt := 25) dX5_isStart_4 rfl (fun q1 => ?_) (fun q1 => ?_)
  · refine rn_iconst (v := 1) dX5_isStart_25 rfl ?_
    refine rn_goto (tgt := 30) dX5_isStart_26 rfl ?_
    exact rn_ret dX5_isStart_30 trivial (by simp_all [bI, Int32.le_iff_toInt_le, Int32.lt_iff_toInt_lt] <;> omega)
  · refine rn_aload_n dX5_isStart_7 rfl ?_
    refine rn_getfield dX5_isStart_8 fo_X5_32 (h_node (by omega)) rfl ?_
    refine rn_bipush (v := 6) dX5_isStart_11 rfl ?_
    refine rn_icmp_eq (tgt := 25) dX5_isStart_13 rfl (fun q2 => ?_) (fun q2 => ?_)
    · refine rn_iconst (v := 1) dX5_isStart_25 rfl ?_
      refine rn_goto (tgt := 30) dX5_isStart_26 rfl ?_
      exact rn_ret dX5_isStart_30 trivial (by simp_all [bI, Int32.le_iff_toInt_le, Int32.lt_iff_toInt_lt] <;> omega)
    · refine rn_aload_n dX5_isStart_16 rfl ?_
      refine rn_getfield dX5_isStart_17 fo_X5_32 (h_node (by omega)) rfl ?_
      refine rn_bipush (v := 7) dX5_isStart_20 rfl ?_
      refine rn_icmp_ne (tgt := 29) dX5_isStart_22 rfl (fun q3 => ?_) (fun q3 => ?_)
      · refine rn_iconst (v := 0) dX5_isStart_29 rfl ?_
        exact rn_ret dX5_isStart_30 trivial (by simp_all [bI, Int32.le_iff_toInt_le, Int32.lt_iff_toInt_lt] <;> omega)
      · refine rn_iconst (v := 1) dX5_isStart_25 rfl ?_
        refine rn_goto (tgt := 30) dX5_isStart_26 rfl ?_
        exact rn_ret dX5_isStart_30 trivial (by simp_all [bI, Int32.le_iff_toInt_le, Int32.lt_iff_toInt_lt] <;> omega)
set_option maxRecDepth 20000 in
theorem c_X5_isEndKind {i : Nat} (hi : i < 16) : Cn l D ad tc L xs mX5_isEndKind 0 0 [.ref (i + 14)] (wd S E, sl) (some (.int (bI (decide (sI S (i + 13) 0 = 6 ∨ sI S (i + 13) 0 = 7 ∨ sI S (i + 13) 0 = 8))))) (wd S E, sl) := by
  refine cn_of (lv0 := [(0, .ref (i + 14))]) (by decide +kernel) ⟨_, rfl, bI_nar _⟩ (fun _ => by simp [lg_sl, j_v, Value.category]) (fun _ => rfl) ?_
  refine rn_aload_n dX5_isEndKind_0 rfl ?_
  refine rn_getfield dX5_isEndKind_1 fo_X5_32 (h_node (by omega)) rfl ?_
  refine rn_bipush (v := 6) dX5_isEndKind_4 rfl ?_
  refine rn_icmp_eq (tgt := 27) dX5_isEndKind_6 rfl (fun q1 => ?_) (fun q1 => ?_)
  · refine rn_iconst (v := 1) dX5_isEndKind_27 rfl ?_
    refine rn_goto (tgt := 32) dX5_isEndKind_28 rfl ?_
    exact rn_ret dX5_isEndKind_32 trivial (by simp_all [bI, Int32.le_iff_toInt_le, Int32.lt_iff_toInt_lt] <;> omega)
  · refine rn_aload_n dX5_isEndKind_9 rfl ?_
    refine rn_getfield dX5_isEndKind_10 fo_X5_32 (h_node (by omega)) rfl ?_
    refine rn_bipush (v := 7) dX5_isEndKind_13 rfl ?_
    refine rn_icmp_eq (tgt := 27) dX5_isEndKind_15 rfl (fun q2 => ?_) (fun q2 => ?_)
    · refine rn_iconst (v := 1) dX5_isEndKind_27 rfl ?_
      refine rn_goto (tgt := 32) dX5_isEndKind_28 rfl ?_
      exact rn_ret dX5_isEndKind_32 trivial (by simp_all [bI, Int32.le_iff_toInt_le, Int32.lt_iff_toInt_lt] <;> omega)
    · refine rn_aload_n dX5_isEndKind_18 rfl ?_
      refine rn_getfield dX5_isEndKind_19 fo_X5_32 (h_node (by omega)) rfl ?_
      refine rn_bipush (v := 8) dX5_isEndKind_22 rfl ?_
      refine rn_icmp_ne (tgt := 31) dX5_isEndKind_24 rfl (fun q3 => ?_) (fun q3 => ?_)
      · refine rn_iconst (v := 0) dX5_isEndKind_31 rfl ?_
        exact rn_ret dX5_isEndKind_32 trivial (by simp_all [bI, Int32.le_iff_toInt_le, Int32.lt_iff_toInt_lt] <;> omega)
      · refine rn_iconst (v := 1) dX5_isEndKind_27 rfl ?_
        refine rn_goto (tgt := 32) dX5_isEndKind_28 rfl ?_
        exact rn_ret dX5_isEndKind_32 trivial (by simp_all [bI, Int32.le_iff_toInt_le, Int32.lt_iff_toInt_lt] <;> omega)
set_option maxRecDepth 20000 in
theorem c_X5_isGate {i : Nat} (hi : i < 16) : Cn l D ad tc L xs mX5_isGate 0 0 [.ref (i + 14)] (wd S E, sl) (some (.int (bI (decide (1 ≤ sI S (i + 13) 0 ∧ sI S (i + 13) 0 ≤ 5))))) (wd S E, sl) := by
  refine cn_of (lv0 := [(0, .ref (i + 14))]) (by decide +kernel) ⟨_, rfl, bI_nar _⟩ (fun _ => by simp [lg_sl, j_v, Value.category]) (fun _ => rfl) ?_
  refine rn_aload_n dX5_isGate_0 rfl ?_
  refine rn_getfield dX5_isGate_1 fo_X5_32 (h_node (by omega)) rfl ?_
  refine rn_iconst (v := 1) dX5_isGate_4 rfl ?_
  refine rn_icmp_lt (tgt := 20) dX5_isGate_5 rfl (fun q1 => ?_) (fun q1 => ?_)
  · refine rn_iconst (v := 0) dX5_isGate_20 rfl ?_
    exact rn_ret dX5_isGate_21 trivial (by simp_all [bI, Int32.le_iff_toInt_le, Int32.lt_iff_toInt_lt] <;> omega)
  · refine rn_aload_n dX5_isGate_8 rfl ?_
    refine rn_getfield dX5_isGate_9 fo_X5_32 (h_node (by omega)) rfl ?_
    refine rn_iconst (v := 5) dX5_isGate_12 rfl ?_
    refine rn_icmp_gt (tgt := 20) dX5_isGate_13 rfl (fun q2 => ?_) (fun q2 => ?_)
    · refine rn_iconst (v := 0) dX5_isGate_20 rfl ?_
      exact rn_ret dX5_isGate_21 trivial (by simp_all [bI, Int32.le_iff_toInt_le, Int32.lt_iff_toInt_lt] <;> omega)
    · refine rn_iconst (v := 1) dX5_isGate_16 rfl ?_
      refine rn_goto (tgt := 21) dX5_isGate_17 rfl ?_
      exact rn_ret dX5_isGate_21 trivial (by simp_all [bI, Int32.le_iff_toInt_le, Int32.lt_iff_toInt_lt] <;> omega)
set_option maxRecDepth 20000 in
theorem c_X5_makes {i : Nat} {x y : Int32} (hi : i < 16) : Cn l D ad tc L xs mX5_makes 0 0 [.ref (i + 14), .int x, .int y] (wd S E, sl) (some (.int (bI (decide (sI S (i + 13) 0 = 5 ∨ (if sI S (i + 13) 0 = 2 ∨ sI S (i + 13) 0 = 4 then x ≠ y else x = y)))))) (wd S E, sl) := by
  refine cn_of (lv0 := [(0, .ref (i + 14)), (1, .int x), (2, .int y)]) (by decide +kernel) ⟨_, rfl, bI_nar _⟩ (fun _ => by simp [lg_sl, j_v, Value.category]) (fun _ => rfl) ?_
  refine rn_aload_n dX5_makes_0 rfl ?_
  refine rn_getfield dX5_makes_1 fo_X5_32 (h_node (by omega)) rfl ?_
  refine rn_iconst (v := 5) dX5_makes_4 rfl ?_
  refine rn_icmp_ne (tgt := 10) dX5_makes_5 rfl (fun q1 => ?_) (fun q1 => ?_)
  · refine rn_aload_n dX5_makes_10 rfl ?_
    refine rn_getfield dX5_makes_11 fo_X5_32 (h_node (by omega)) rfl ?_
    refine rn_iconst (v := 2) dX5_makes_14 rfl ?_
    refine rn_icmp_eq (tgt := 26) dX5_makes_15 rfl (fun q2 => ?_) (fun q2 => ?_)
    · refine rn_iconst (v := 1) dX5_makes_26 rfl ?_
      refine rn_goto (tgt := 31) dX5_makes_27 rfl ?_
      refine rn_istore_n dX5_makes_31 (by decide) rfl ?_
      refine rn_iload_n dX5_makes_32 rfl ?_
      refine rn_if_eq (tgt := 49) dX5_makes_33 rfl (fun q3 => ?_) (fun q3 => ?_)
      · refine rn_iload_n dX5_makes_49 rfl ?_
        refine rn_iload_n dX5_makes_50 rfl ?_
        refine rn_icmp_ne (tgt := 58) dX5_makes_51 rfl (fun q4 => ?_) (fun q4 => ?_)
        · refine rn_iconst (v := 0) dX5_makes_58 rfl ?_
          exact rn_ret dX5_makes_59 trivial (by simp_all [bI, Int32.le_iff_toInt_le, Int32.lt_iff_toInt_lt] <;> omega)
        · refine rn_iconst (v := 1) dX5_makes_54 rfl ?_
          refine rn_goto (tgt := 59) dX5_makes_55 rfl ?_
          exact rn_ret dX5_makes_59 trivial (by simp_all [bI, Int32.le_iff_toInt_le, Int32.lt_iff_toInt_lt] <;> omega)
      · refine rn_iload_n dX5_makes_36 rfl ?_
        refine rn_iload_n dX5_makes_37 rfl ?_
        refine rn_icmp_eq (tgt := 45) dX5_makes_38 rfl (fun q5 => ?_) (fun q5 => ?_)
        · refine rn_iconst (v := 0) dX5_makes_45 rfl ?_
          refine rn_goto (tgt := 59) dX5_makes_46 rfl ?_
          exact rn_ret dX5_makes_59 trivial (by simp_all [bI, Int32.le_iff_toInt_le, Int32.lt_iff_toInt_lt] <;> omega)
        · refine rn_iconst (v := 1) dX5_makes_41 rfl ?_
          refine rn_goto (tgt := 59) dX5_makes_42 rfl ?_
          exact rn_ret dX5_makes_59 trivial (by simp_all [bI, Int32.le_iff_toInt_le, Int32.lt_iff_toInt_lt] <;> omega)
    · refine rn_aload_n dX5_makes_18 rfl ?_
      refine rn_getfield dX5_makes_19 fo_X5_32 (h_node (by omega)) rfl ?_
      refine rn_iconst (v := 4) dX5_makes_22 rfl ?_
      refine rn_icmp_ne (tgt := 30) dX5_makes_23 rfl (fun q6 => ?_) (fun q6 => ?_)
      · refine rn_iconst (v := 0) dX5_makes_30 rfl ?_
        refine rn_istore_n dX5_makes_31 (by decide) rfl ?_
        refine rn_iload_n dX5_makes_32 rfl ?_
        refine rn_if_eq (tgt := 49) dX5_makes_33 rfl (fun q7 => ?_) (fun q7 => ?_)
        · refine rn_iload_n dX5_makes_49 rfl ?_
          refine rn_iload_n dX5_makes_50 rfl ?_
          refine rn_icmp_ne (tgt := 58) dX5_makes_51 rfl (fun q8 => ?_) (fun q8 => ?_)
          · refine rn_iconst (v := 0) dX5_makes_58 rfl ?_
            exact rn_ret dX5_makes_59 trivial (by simp_all [bI, Int32.le_iff_toInt_le, Int32.lt_iff_toInt_lt] <;> omega)
          · refine rn_iconst (v := 1) dX5_makes_54 rfl ?_
            refine rn_goto (tgt := 59) dX5_makes_55 rfl ?_
            exact rn_ret dX5_makes_59 trivial (by simp_all [bI, Int32.le_iff_toInt_le, Int32.lt_iff_toInt_lt] <;> omega)
        · refine rn_iload_n dX5_makes_36 rfl ?_
          refine rn_iload_n dX5_makes_37 rfl ?_
          refine rn_icmp_eq (tgt := 45) dX5_makes_38 rfl (fun q9 => ?_) (fun q9 => ?_)
          · refine rn_iconst (v := 0) dX5_makes_45 rfl ?_
            refine rn_goto (tgt := 59) dX5_makes_46 rfl ?_
            exact rn_ret dX5_makes_59 trivial (by simp_all [bI, Int32.le_iff_toInt_le, Int32.lt_iff_toInt_lt] <;> omega)
          · refine rn_iconst (v := 1) dX5_makes_41 rfl ?_
            refine rn_goto (tgt := 59) dX5_makes_42 rfl ?_
            exact rn_ret dX5_makes_59 trivial (by simp_all [bI, Int32.le_iff_toInt_le, Int32.lt_iff_toInt_lt] <;> omega)
      · refine rn_iconst (v := 1) dX5_makes_26 rfl ?_
        refine rn_goto (tgt := 31) dX5_makes_27 rfl ?_
        refine rn_istore_n dX5_makes_31 (by decide) rfl ?_
        refine rn_iload_n dX5_makes_32 rfl ?_
        refine rn_if_eq (tgt := 49) dX5_makes_33 rfl (fun q10 => ?_) (fun q10 => ?_)
        · refine rn_iload_n dX5_makes_49 rfl ?_
          refine rn_iload_n dX5_makes_50 rfl ?_
          refine rn_icmp_ne (tgt := 58) dX5_makes_51 rfl (fun q11 => ?_) (fun q11 => ?_)
          · refine rn_iconst (v := 0) dX5_makes_58 rfl ?_
            exact rn_ret dX5_makes_59 trivial (by simp_all [bI, Int32.le_iff_toInt_le, Int32.lt_iff_toInt_lt] <;> omega)
          · refine rn_iconst (v := 1) dX5_makes_54 rfl ?_
            refine rn_goto (tgt := 59) dX5_makes_55 rfl ?_
            exact rn_ret dX5_makes_59 trivial (by simp_all [bI, Int32.le_iff_toInt_le, Int32.lt_iff_toInt_lt] <;> omega)
        · refine rn_iload_n dX5_makes_36 rfl ?_
          refine rn_iload_n dX5_makes_37 rfl ?_
          refine rn_icmp_eq (tgt := 45) dX5_makes_38 rfl (fun q12 => ?_) (fun q12 => ?_)
          · refine rn_iconst (v := 0) dX5_makes_45 rfl ?_
            refine rn_goto (tgt := 59) dX5_makes_46 rfl ?_
            exact rn_ret dX5_makes_59 trivial (by simp_all [bI, Int32.le_iff_toInt_le, Int32.lt_iff_toInt_lt] <;> omega)
          · refine rn_iconst (v := 1) dX5_makes_41 rfl ?_
            refine rn_goto (tgt := 59) dX5_makes_42 rfl ?_
            exact rn_ret dX5_makes_59 trivial (by simp_all [bI, Int32.le_iff_toInt_le, Int32.lt_iff_toInt_lt] <;> omega)
  · refine rn_iconst (v := 1) dX5_makes_8 rfl ?_
    exact rn_ret dX5_makes_9 trivial (by simp_all [bI, Int32.le_iff_toInt_le, Int32.lt_iff_toInt_lt] <;> omega)
set_option maxRecDepth 20000 in
theorem c_X9_isIn {v a b : Int32} : Cn l D ad tc L xs mX9_isIn 0 0 [.int v, .int a, .int b] (wd S E, sl) (some (.int (bI (decide (a ≤ v ∧ v ≤ b))))) (wd S E, sl) := by
  refine cn_of (lv0 := [(0, .int v), (1, .int a), (2, .int b)]) (by decide +kernel) ⟨_, rfl, bI_nar _⟩ (fun _ => by simp [lg_sl, j_v, Value.category]) (fun _ => rfl) ?_
  refine rn_iload_n dX9_isIn_0 rfl ?_
  refine rn_iload_n dX9_isIn_1 rfl ?_
  refine rn_icmp_lt (tgt := 14) dX9_isIn_2 rfl (fun q1 => ?_) (fun q1 => ?_)
  · refine rn_iconst (v := 0) dX9_isIn_14 rfl ?_
    exact rn_ret dX9_isIn_15 trivial (by simp_all [bI, Int32.le_iff_toInt_le, Int32.lt_iff_toInt_lt] <;> omega)
  · refine rn_iload_n dX9_isIn_5 rfl ?_
    refine rn_iload_n dX9_isIn_6 rfl ?_
    refine rn_icmp_gt (tgt := 14) dX9_isIn_7 rfl (fun q2 => ?_) (fun q2 => ?_)
    · refine rn_iconst (v := 0) dX9_isIn_14 rfl ?_
      exact rn_ret dX9_isIn_15 trivial (by simp_all [bI, Int32.le_iff_toInt_le, Int32.lt_iff_toInt_lt] <;> omega)
    · refine rn_iconst (v := 1) dX9_isIn_10 rfl ?_
      refine rn_goto (tgt := 15) dX9_isIn_11 rfl ?_
      exact rn_ret dX9_isIn_15 trivial (by simp_all [bI, Int32.le_iff_toInt_le, Int32.lt_iff_toInt_lt] <;> omega)
set_option maxRecDepth 20000 in
theorem c_X9_isSize {v : Int32} : Cn l D ad tc L xs mX9_isSize 0 0 [.int v] (wd S E, sl) (some (.int (bI (decide (v = 1 ∨ v = 2 ∨ v = 4))))) (wd S E, sl) := by
  refine cn_of (lv0 := [(0, .int v)]) (by decide +kernel) ⟨_, rfl, bI_nar _⟩ (fun _ => by simp [lg_sl, j_v, Value.category]) (fun _ => rfl) ?_
  refine rn_iload_n dX9_isSize_0 rfl ?_
  refine rn_iconst (v := 1) dX9_isSize_1 rfl ?_
  refine rn_icmp_eq (tgt := 15) dX9_isSize_2 rfl (fun q1 => ?_) (fun q1 => ?_)
  · refine rn_iconst (v := 1) dX9_isSize_15 rfl ?_
    refine rn_goto (tgt := 20) dX9_isSize_16 rfl ?_
    exact rn_ret dX9_isSize_20 trivial (by simp_all [bI, Int32.le_iff_toInt_le, Int32.lt_iff_toInt_lt] <;> omega)
  · refine rn_iload_n dX9_isSize_5 rfl ?_
    refine rn_iconst (v := 2) dX9_isSize_6 rfl ?_
    refine rn_icmp_eq (tgt := 15) dX9_isSize_7 rfl (fun q2 => ?_) (fun q2 => ?_)
    · refine rn_iconst (v := 1) dX9_isSize_15 rfl ?_
      refine rn_goto (tgt := 20) dX9_isSize_16 rfl ?_
      exact rn_ret dX9_isSize_20 trivial (by simp_all [bI, Int32.le_iff_toInt_le, Int32.lt_iff_toInt_lt] <;> omega)
    · refine rn_iload_n dX9_isSize_10 rfl ?_
      refine rn_iconst (v := 4) dX9_isSize_11 rfl ?_
      refine rn_icmp_ne (tgt := 19) dX9_isSize_12 rfl (fun q3 => ?_) (fun q3 => ?_)
      · refine rn_iconst (v := 0) dX9_isSize_19 rfl ?_
        exact rn_ret dX9_isSize_20 trivial (by simp_all [bI, Int32.le_iff_toInt_le, Int32.lt_iff_toInt_lt] <;> omega)
      · refine rn_iconst (v := 1) dX9_isSize_15 rfl ?_
        refine rn_goto (tgt := 20) dX9_isSize_16 rfl ?_
        exact rn_ret dX9_isSize_20 trivial (by simp_all [bI, Int32.le_iff_toInt_le, Int32.lt_iff_toInt_lt] <;> omega)
set_option maxRecDepth 20000 in
theorem c_X9_smaller {a b : Int} (ha : dB a) (hb : dB b) : Cn l D ad tc L xs mX9_smaller 0 0 [.double (dv a), .double (dv b)] (wd S E, sl) (some (.double (dv (min a b)))) (wd S E, sl) := by
  refine cn_of (lv0 := [(0, .double (dv a)), (2, .double (dv b))]) (by decide +kernel) rfl (fun _ => by simp [lg_sl, j_v, Value.category]) (fun _ => rfl) ?_
  refine rn_dload_n dX9_smaller_0 rfl ?_
  refine rn_dload_n dX9_smaller_1 rfl ?_
  refine rn_dcmpv dX9_smaller_2 ha hb ?_
  refine rn_if_gt (tgt := 10) dX9_smaller_3 rfl (fun q1 => ?_) (fun q1 => ?_)
  · refine rn_dload_n dX9_smaller_10 rfl ?_
    exact rn_ret dX9_smaller_11 trivial (by (first | rw [cmpI_gt] at q1 | rw [cmpI_lt] at q1); show [Value.double (dv _)] = [Value.double (dv _)]; congr 3; omega)
  · refine rn_dload_n dX9_smaller_6 rfl ?_
    refine rn_goto (tgt := 11) dX9_smaller_7 rfl ?_
    exact rn_ret dX9_smaller_11 trivial (by (first | rw [cmpI_gt] at q1 | rw [cmpI_lt] at q1); show [Value.double (dv _)] = [Value.double (dv _)]; congr 3; omega)
set_option maxRecDepth 20000 in
theorem c_X9_greater {a b : Int} (ha : dB a) (hb : dB b) : Cn l D ad tc L xs mX9_greater 0 0 [.double (dv a), .double (dv b)] (wd S E, sl) (some (.double (dv (max a b)))) (wd S E, sl) := by
  refine cn_of (lv0 := [(0, .double (dv a)), (2, .double (dv b))]) (by decide +kernel) rfl (fun _ => by simp [lg_sl, j_v, Value.category]) (fun _ => rfl) ?_
  refine rn_dload_n dX9_greater_0 rfl ?_
  refine rn_dload_n dX9_greater_1 rfl ?_
  refine rn_dcmpv dX9_greater_2 ha hb ?_
  refine rn_if_lt (tgt := 10) dX9_greater_3 rfl (fun q1 => ?_) (fun q1 => ?_)
  · refine rn_dload_n dX9_greater_10 rfl ?_
    exact rn_ret dX9_greater_11 trivial (by (first | rw [cmpI_gt] at q1 | rw [cmpI_lt] at q1); show [Value.double (dv _)] = [Value.double (dv _)]; congr 3; omega)
  · refine rn_dload_n dX9_greater_6 rfl ?_
    refine rn_goto (tgt := 11) dX9_greater_7 rfl ?_
    exact rn_ret dX9_greater_11 trivial (by (first | rw [cmpI_gt] at q1 | rw [cmpI_lt] at q1); show [Value.double (dv _)] = [Value.double (dv _)]; congr 3; omega)
set_option maxRecDepth 20000 in
theorem c_X6_reaches {s i : Nat} (hi : i < 16) : Cn l D ad tc L xs mX6_reaches 0 0 [.ref 39, .int (nI s), .int (nI i)] (wd S E, sl) (some (.int (bI (decide ((sA S 39 i >>> (nI s &&& 31)) &&& 1 ≠ 0))))) (wd S E, sl) := by
  refine cn_of (lv0 := [(0, .ref 39), (1, .int (nI s)), (2, .int (nI i))]) (by decide +kernel) ⟨_, rfl, bI_nar _⟩ (fun _ => by simp [lg_sl, j_v, Value.category]) (fun _ => rfl) ?_
  refine rn_aload_n dX6_reaches_0 rfl ?_
  refine rn_getfield dX6_reaches_1 fo_X6_9 h_paths rfl ?_
  refine rn_iload_n dX6_reaches_4 rfl ?_
  refine rn_iaload dX6_reaches_5 h_reach rfl (vp_in_nI (by omega) (by decide)) ?_
  rw [nI_clamp (by omega)]
  refine rn_iload_n dX6_reaches_6 rfl ?_
  refine rn_ishr dX6_reaches_7 ?_
  refine rn_iconst (v := 1) dX6_reaches_8 rfl ?_
  refine rn_iand dX6_reaches_9 ?_
  refine rn_if_eq (tgt := 17) dX6_reaches_10 rfl (fun q1 => ?_) (fun q1 => ?_)
  · refine rn_iconst (v := 0) dX6_reaches_17 rfl ?_
    exact rn_ret dX6_reaches_18 trivial (by simp_all [bI, Int32.le_iff_toInt_le, Int32.lt_iff_toInt_lt] <;> omega)
  · refine rn_iconst (v := 1) dX6_reaches_13 rfl ?_
    refine rn_goto (tgt := 18) dX6_reaches_14 rfl ?_
    exact rn_ret dX6_reaches_18 trivial (by simp_all [bI, Int32.le_iff_toInt_le, Int32.lt_iff_toInt_lt] <;> omega)
set_option maxRecDepth 20000 in
theorem c_X6_isChecked {s i : Nat} (hi : i < 16) : Cn l D ad tc L xs mX6_isChecked 0 0 [.ref 39, .int (nI s), .int (nI i)] (wd S E, sl) (some (.int (bI (decide ((sA S 40 i >>> (nI s &&& 31)) &&& 1 ≠ 0))))) (wd S E, sl) := by
  refine cn_of (lv0 := [(0, .ref 39), (1, .int (nI s)), (2, .int (nI i))]) (by decide +kernel) ⟨_, rfl, bI_nar _⟩ (fun _ => by simp [lg_sl, j_v, Value.category]) (fun _ => rfl) ?_
  refine rn_aload_n dX6_isChecked_0 rfl ?_
  refine rn_getfield dX6_isChecked_1 fo_X6_15 h_paths rfl ?_
  refine rn_iload_n dX6_isChecked_4 rfl ?_
  refine rn_iaload dX6_isChecked_5 h_checked rfl (vp_in_nI (by omega) (by decide)) ?_
  rw [nI_clamp (by omega)]
  refine rn_iload_n dX6_isChecked_6 rfl ?_
  refine rn_ishr dX6_isChecked_7 ?_
  refine rn_iconst (v := 1) dX6_isChecked_8 rfl ?_
  refine rn_iand dX6_isChecked_9 ?_
  refine rn_if_eq (tgt := 17) dX6_isChecked_10 rfl (fun q1 => ?_) (fun q1 => ?_)
  · refine rn_iconst (v := 0) dX6_isChecked_17 rfl ?_
    exact rn_ret dX6_isChecked_18 trivial (by simp_all [bI, Int32.le_iff_toInt_le, Int32.lt_iff_toInt_lt] <;> omega)
  · refine rn_iconst (v := 1) dX6_isChecked_13 rfl ?_
    refine rn_goto (tgt := 18) dX6_isChecked_14 rfl ?_
    exact rn_ret dX6_isChecked_18 trivial (by simp_all [bI, Int32.le_iff_toInt_le, Int32.lt_iff_toInt_lt] <;> omega)
set_option maxRecDepth 20000 in
theorem c_X6_hasCheck {i : Nat} (hi : i < 16) : Cn l D ad tc L xs mX6_hasCheck 0 0 [.ref 39, .int (nI i)] (wd S E, sl) (some (.int (bI (decide (sA S 40 i ≠ 0))))) (wd S E, sl) := by
  refine cn_of (lv0 := [(0, .ref 39), (1, .int (nI i))]) (by decide +kernel) ⟨_, rfl, bI_nar _⟩ (fun _ => by simp [lg_sl, j_v, Value.category]) (fun _ => rfl) ?_
  refine rn_aload_n dX6_hasCheck_0 rfl ?_
  refine rn_getfield dX6_hasCheck_1 fo_X6_15 h_paths rfl ?_
  refine rn_iload_n dX6_hasCheck_4 rfl ?_
  refine rn_iaload dX6_hasCheck_5 h_checked rfl (vp_in_nI (by omega) (by decide)) ?_
  rw [nI_clamp (by omega)]
  refine rn_if_eq (tgt := 13) dX6_hasCheck_6 rfl (fun q1 => ?_) (fun q1 => ?_)
  · refine rn_iconst (v := 0) dX6_hasCheck_13 rfl ?_
    exact rn_ret dX6_hasCheck_14 trivial (by simp_all [bI, Int32.le_iff_toInt_le, Int32.lt_iff_toInt_lt] <;> omega)
  · refine rn_iconst (v := 1) dX6_hasCheck_9 rfl ?_
    refine rn_goto (tgt := 14) dX6_hasCheck_10 rfl ?_
    exact rn_ret dX6_hasCheck_14 trivial (by simp_all [bI, Int32.le_iff_toInt_le, Int32.lt_iff_toInt_lt] <;> omega)
set_option maxRecDepth 20000 in
theorem c_X6_gapBetween {s i : Nat} (hs : s < 16) (hi : i < 16) : Cn l D ad tc L xs mX6_gapBetween 0 0 [.ref 39, .int (nI s), .int (nI i)] (wd S E, sl) (some (.int (sA S 42 (s * 16 + i)))) (wd S E, sl) := by
  refine cn_of (lv0 := [(0, .ref 39), (1, .int (nI s)), (2, .int (nI i))]) (by decide +kernel) ⟨_, rfl, rfl⟩ (fun _ => by simp [lg_sl, j_v, Value.category]) (fun _ => rfl) ?_
  refine rn_aload_n dX6_gapBetween_0 rfl ?_
  refine rn_getfield dX6_gapBetween_1 fo_X6_21 h_paths rfl ?_
  refine rn_iload_n dX6_gapBetween_4 rfl ?_
  refine rn_bipush (v := nI 16) dX6_gapBetween_5 (by decide) ?_
  refine rn_imul dX6_gapBetween_7 ?_
  refine rn_topi (nI_mul _ _) ?_
  refine rn_iload_n dX6_gapBetween_8 rfl ?_
  refine rn_iadd dX6_gapBetween_9 ?_
  refine rn_topi (nI_add _ _) ?_
  refine rn_iaload dX6_gapBetween_10 h_gaps rfl (vp_in_nI (by omega) (by decide)) ?_
  rw [nI_clamp (by omega)]
  exact rn_ret dX6_gapBetween_11 trivial rfl
set_option maxRecDepth 20000 in
theorem c_X6_waysTo {s i : Nat} (hs : s < 16) (hi : i < 16) : Cn l D ad tc L xs mX6_waysTo 0 0 [.ref 39, .int (nI s), .int (nI i)] (wd S E, sl) (some (.int (sA S 41 (s * 16 + i)))) (wd S E, sl) := by
  refine cn_of (lv0 := [(0, .ref 39), (1, .int (nI s)), (2, .int (nI i))]) (by decide +kernel) ⟨_, rfl, rfl⟩ (fun _ => by simp [lg_sl, j_v, Value.category]) (fun _ => rfl) ?_
  refine rn_aload_n dX6_waysTo_0 rfl ?_
  refine rn_getfield dX6_waysTo_1 fo_X6_18 h_paths rfl ?_
  refine rn_iload_n dX6_waysTo_4 rfl ?_
  refine rn_bipush (v := nI 16) dX6_waysTo_5 (by decide) ?_
  refine rn_imul dX6_waysTo_7 ?_
  refine rn_topi (nI_mul _ _) ?_
  refine rn_iload_n dX6_waysTo_8 rfl ?_
  refine rn_iadd dX6_waysTo_9 ?_
  refine rn_topi (nI_add _ _) ?_
  refine rn_iaload dX6_waysTo_10 h_counts rfl (vp_in_nI (by omega) (by decide)) ?_
  rw [nI_clamp (by omega)]
  exact rn_ret dX6_waysTo_11 trivial rfl
set_option maxRecDepth 20000 in
theorem c_X7_fits {k : Nat} {s e : Int32} (hk : k < 6) : Cn l D ad tc L xs mX7_fits 0 0 [.ref (k + 30), .int s, .int e] (wd S E, sl) (some (.int (bI (decide ((sI S (k + 29) 1 = -1 ∨ sI S (k + 29) 1 = s) ∧ (sI S (k + 29) 2 = -1 ∨ sI S (k + 29) 2 = e)))))) (wd S E, sl) := by
  refine cn_of (lv0 := [(0, .ref (k + 30)), (1, .int s), (2, .int e)]) (by decide +kernel) ⟨_, rfl, bI_nar _⟩ (fun _ => by simp [lg_sl, j_v, Value.category]) (fun _ => rfl) ?_
  refine rn_aload_n dX7_fits_0 rfl ?_
  refine rn_getfield dX7_fits_1 fo_X7_9 (h_rule (by omega)) rfl ?_
  refine rn_iconst (v := (-1)) dX7_fits_4 rfl ?_
  refine rn_icmp_eq (tgt := 16) dX7_fits_5 rfl (fun q1 => ?_) (fun q1 => ?_)
  · refine rn_aload_n dX7_fits_16 rfl ?_
    refine rn_getfield dX7_fits_17 fo_X7_15 (h_rule (by omega)) rfl ?_
    refine rn_iconst (v := (-1)) dX7_fits_20 rfl ?_
    refine rn_icmp_eq (tgt := 32) dX7_fits_21 rfl (fun q2 => ?_) (fun q2 => ?_)
    · refine rn_iconst (v := 1) dX7_fits_32 rfl ?_
      refine rn_goto (tgt := 37) dX7_fits_33 rfl ?_
      exact rn_ret dX7_fits_37 trivial (by simp_all [bI, Int32.le_iff_toInt_le, Int32.lt_iff_toInt_lt] <;> omega)
    · refine rn_aload_n dX7_fits_24 rfl ?_
      refine rn_getfield dX7_fits_25 fo_X7_15 (h_rule (by omega)) rfl ?_
      refine rn_iload_n dX7_fits_28 rfl ?_
      refine rn_icmp_ne (tgt := 36) dX7_fits_29 rfl (fun q3 => ?_) (fun q3 => ?_)
      · refine rn_iconst (v := 0) dX7_fits_36 rfl ?_
        exact rn_ret dX7_fits_37 trivial (by simp_all [bI, Int32.le_iff_toInt_le, Int32.lt_iff_toInt_lt] <;> omega)
      · refine rn_iconst (v := 1) dX7_fits_32 rfl ?_
        refine rn_goto (tgt := 37) dX7_fits_33 rfl ?_
        exact rn_ret dX7_fits_37 trivial (by simp_all [bI, Int32.le_iff_toInt_le, Int32.lt_iff_toInt_lt] <;> omega)
  · refine rn_aload_n dX7_fits_8 rfl ?_
    refine rn_getfield dX7_fits_9 fo_X7_9 (h_rule (by omega)) rfl ?_
    refine rn_iload_n dX7_fits_12 rfl ?_
    refine rn_icmp_ne (tgt := 36) dX7_fits_13 rfl (fun q4 => ?_) (fun q4 => ?_)
    · refine rn_iconst (v := 0) dX7_fits_36 rfl ?_
      exact rn_ret dX7_fits_37 trivial (by simp_all [bI, Int32.le_iff_toInt_le, Int32.lt_iff_toInt_lt] <;> omega)
    · refine rn_aload_n dX7_fits_16 rfl ?_
      refine rn_getfield dX7_fits_17 fo_X7_15 (h_rule (by omega)) rfl ?_
      refine rn_iconst (v := (-1)) dX7_fits_20 rfl ?_
      refine rn_icmp_eq (tgt := 32) dX7_fits_21 rfl (fun q5 => ?_) (fun q5 => ?_)
      · refine rn_iconst (v := 1) dX7_fits_32 rfl ?_
        refine rn_goto (tgt := 37) dX7_fits_33 rfl ?_
        exact rn_ret dX7_fits_37 trivial (by simp_all [bI, Int32.le_iff_toInt_le, Int32.lt_iff_toInt_lt] <;> omega)
      · refine rn_aload_n dX7_fits_24 rfl ?_
        refine rn_getfield dX7_fits_25 fo_X7_15 (h_rule (by omega)) rfl ?_
        refine rn_iload_n dX7_fits_28 rfl ?_
        refine rn_icmp_ne (tgt := 36) dX7_fits_29 rfl (fun q6 => ?_) (fun q6 => ?_)
        · refine rn_iconst (v := 0) dX7_fits_36 rfl ?_
          exact rn_ret dX7_fits_37 trivial (by simp_all [bI, Int32.le_iff_toInt_le, Int32.lt_iff_toInt_lt] <;> omega)
        · refine rn_iconst (v := 1) dX7_fits_32 rfl ?_
          refine rn_goto (tgt := 37) dX7_fits_33 rfl ?_
          exact rn_ret dX7_fits_37 trivial (by simp_all [bI, Int32.le_iff_toInt_le, Int32.lt_iff_toInt_lt] <;> omega)
set_option maxRecDepth 20000 in
theorem c_X7_weight {k : Nat} (hk : k < 6) : Cn l D ad tc L xs mX7_weight 0 0 [.ref (k + 30)] (wd S E, sl) (some (.int (mWeight S k))) (wd S E, sl) := by
  refine cn_of (lv0 := [(0, .ref (k + 30))]) (by decide +kernel) ⟨_, rfl, rfl⟩ (fun _ => by simp [lg_sl, j_v, Value.category]) (fun _ => rfl) ?_
  refine rn_aload_n dX7_weight_0 rfl ?_
  refine rn_getfield dX7_weight_1 fo_X7_18 (h_rule (by omega)) rfl ?_
  refine rn_if_ne (tgt := 11) dX7_weight_4 rfl (fun q1 => ?_) (fun q1 => ?_)
  · refine rn_iconst (v := 0) dX7_weight_11 rfl ?_
    refine rn_aload_n dX7_weight_12 rfl ?_
    refine rn_getfield dX7_weight_13 fo_X7_9 (h_rule (by omega)) rfl ?_
    refine rn_iconst (v := (-1)) dX7_weight_16 rfl ?_
    refine rn_icmp_ne (tgt := 24) dX7_weight_17 rfl (fun q2 => ?_) (fun q2 => ?_)
    · refine rn_iconst (v := 2) dX7_weight_24 rfl ?_
      refine rn_iadd dX7_weight_25 ?_
      refine rn_aload_n dX7_weight_26 rfl ?_
      refine rn_getfield dX7_weight_27 fo_X7_15 (h_rule (by omega)) rfl ?_
      refine rn_iconst (v := (-1)) dX7_weight_30 rfl ?_
      refine rn_icmp_ne (tgt := 38) dX7_weight_31 rfl (fun q3 => ?_) (fun q3 => ?_)
      · refine rn_iconst (v := 1) dX7_weight_38 rfl ?_
        refine rn_iadd dX7_weight_39 ?_
        exact rn_ret dX7_weight_40 trivial (by simp_all [mWeight])
      · refine rn_iconst (v := 0) dX7_weight_34 rfl ?_
        refine rn_goto (tgt := 39) dX7_weight_35 rfl ?_
        refine rn_iadd dX7_weight_39 ?_
        exact rn_ret dX7_weight_40 trivial (by simp_all [mWeight])
    · refine rn_iconst (v := 0) dX7_weight_20 rfl ?_
      refine rn_goto (tgt := 25) dX7_weight_21 rfl ?_
      refine rn_iadd dX7_weight_25 ?_
      refine rn_aload_n dX7_weight_26 rfl ?_
      refine rn_getfield dX7_weight_27 fo_X7_15 (h_rule (by omega)) rfl ?_
      refine rn_iconst (v := (-1)) dX7_weight_30 rfl ?_
      refine rn_icmp_ne (tgt := 38) dX7_weight_31 rfl (fun q4 => ?_) (fun q4 => ?_)
      · refine rn_iconst (v := 1) dX7_weight_38 rfl ?_
        refine rn_iadd dX7_weight_39 ?_
        exact rn_ret dX7_weight_40 trivial (by simp_all [mWeight])
      · refine rn_iconst (v := 0) dX7_weight_34 rfl ?_
        refine rn_goto (tgt := 39) dX7_weight_35 rfl ?_
        refine rn_iadd dX7_weight_39 ?_
        exact rn_ret dX7_weight_40 trivial (by simp_all [mWeight])
  · refine rn_iconst (v := 4) dX7_weight_7 rfl ?_
    refine rn_goto (tgt := 12) dX7_weight_8 rfl ?_
    refine rn_aload_n dX7_weight_12 rfl ?_
    refine rn_getfield dX7_weight_13 fo_X7_9 (h_rule (by omega)) rfl ?_
    refine rn_iconst (v := (-1)) dX7_weight_16 rfl ?_
    refine rn_icmp_ne (tgt := 24) dX7_weight_17 rfl (fun q5 => ?_) (fun q5 => ?_)
    · refine rn_iconst (v := 2) dX7_weight_24 rfl ?_
      refine rn_iadd dX7_weight_25 ?_
      refine rn_aload_n dX7_weight_26 rfl ?_
      refine rn_getfield dX7_weight_27 fo_X7_15 (h_rule (by omega)) rfl ?_
      refine rn_iconst (v := (-1)) dX7_weight_30 rfl ?_
      refine rn_icmp_ne (tgt := 38) dX7_weight_31 rfl (fun q6 => ?_) (fun q6 => ?_)
      · refine rn_iconst (v := 1) dX7_weight_38 rfl ?_
        refine rn_iadd dX7_weight_39 ?_
        exact rn_ret dX7_weight_40 trivial (by simp_all [mWeight])
      · refine rn_iconst (v := 0) dX7_weight_34 rfl ?_
        refine rn_goto (tgt := 39) dX7_weight_35 rfl ?_
        refine rn_iadd dX7_weight_39 ?_
        exact rn_ret dX7_weight_40 trivial (by simp_all [mWeight])
    · refine rn_iconst (v := 0) dX7_weight_20 rfl ?_
      refine rn_goto (tgt := 25) dX7_weight_21 rfl ?_
      refine rn_iadd dX7_weight_25 ?_
      refine rn_aload_n dX7_weight_26 rfl ?_
      refine rn_getfield dX7_weight_27 fo_X7_15 (h_rule (by omega)) rfl ?_
      refine rn_iconst (v := (-1)) dX7_weight_30 rfl ?_
      refine rn_icmp_ne (tgt := 38) dX7_weight_31 rfl (fun q7 => ?_) (fun q7 => ?_)
      · refine rn_iconst (v := 1) dX7_weight_38 rfl ?_
        refine rn_iadd dX7_weight_39 ?_
        exact rn_ret dX7_weight_40 trivial (by simp_all [mWeight])
      · refine rn_iconst (v := 0) dX7_weight_34 rfl ?_
        refine rn_goto (tgt := 39) dX7_weight_35 rfl ?_
        refine rn_iadd dX7_weight_39 ?_
        exact rn_ret dX7_weight_40 trivial (by simp_all [mWeight])
set_option maxRecDepth 20000 in
theorem c_X8_leastAt {j i : Nat} (hj : j < 7) (hi : i < 16) : Cn l D ad tc L xs mX8_leastAt 0 0 [.ref (5 * j + 50), .int (nI i)] (wd S E, sl) (some (.double (sD S (5 * j + 52) i))) (wd S E, sl) := by
  refine cn_of (lv0 := [(0, .ref (5 * j + 50)), (1, .int (nI i))]) (by decide +kernel) rfl (fun _ => by simp [lg_sl, j_v, Value.category]) (fun _ => rfl) ?_
  refine rn_aload_n dX8_leastAt_0 rfl ?_
  refine rn_getfield dX8_leastAt_1 fo_X8_18 (h_tim (by omega)) rfl ?_
  refine rn_iload_n dX8_leastAt_4 rfl ?_
  refine rn_daload dX8_leastAt_5 (h_leasts (by omega)) rfl (vp_in_nI (by omega) (by decide)) ?_
  rw [nI_clamp (by omega)]
  exact rn_ret dX8_leastAt_6 trivial rfl
set_option maxRecDepth 20000 in
theorem c_X1_isOneGroup {s i : Nat} (hs : s < 16) (hi : i < 16) (hv : ∀ i, i < 16 → sV S i < 4) : Cn l D ad tc L xs mX1_isOneGroup 0 0 [.ref 2, .int (nI s), .int (nI i)] (wd S E, sl) (some (.int (bI (decide (sI S (sV S s + 6) 3 = sI S (sV S i + 6) 3))))) (wd S E, sl) := by
  refine cn_of (lv0 := [(0, .ref 2), (1, .int (nI s)), (2, .int (nI i))]) (by decide +kernel) ⟨_, rfl, bI_nar _⟩ (fun _ => by simp [lg_sl, j_v, Value.category]) (fun _ => rfl) ?_
  have hv1 := hv s hs
  have hv2 := hv i hi
  refine rn_aload_n dX1_isOneGroup_0 rfl ?_
  refine rn_getfield dX1_isOneGroup_1 fo_X1_25 h_chip rfl ?_
  refine rn_iload_n dX1_isOneGroup_4 rfl ?_
  refine rn_aaload dX1_isOneGroup_5 h_nodes rfl (vp_in_nI (by omega) (by decide)) (refs_at rfl (by omega) (by decide)) ?_
  refine rn_getfield dX1_isOneGroup_6 fo_X1_91 (h_node (by omega)) rfl ?_
  refine rn_getfield dX1_isOneGroup_9 fo_X1_60 (h_clock (by omega)) rfl ?_
  refine rn_aload_n dX1_isOneGroup_12 rfl ?_
  refine rn_getfield dX1_isOneGroup_13 fo_X1_25 h_chip rfl ?_
  refine rn_iload_n dX1_isOneGroup_16 rfl ?_
  refine rn_aaload dX1_isOneGroup_17 h_nodes rfl (vp_in_nI (by omega) (by decide)) (refs_at rfl (by omega) (by decide)) ?_
  refine rn_getfield dX1_isOneGroup_18 fo_X1_91 (h_node (by omega)) rfl ?_
  refine rn_getfield dX1_isOneGroup_21 fo_X1_60 (h_clock (by omega)) rfl ?_
  refine rn_icmp_ne (tgt := 31) dX1_isOneGroup_24 rfl (fun q1 => ?_) (fun q1 => ?_)
  · refine rn_iconst (v := 0) dX1_isOneGroup_31 rfl ?_
    exact rn_ret dX1_isOneGroup_32 trivial (by simp_all [bI, Int32.le_iff_toInt_le, Int32.lt_iff_toInt_lt] <;> omega)
  · refine rn_iconst (v := 1) dX1_isOneGroup_27 rfl ?_
    refine rn_goto (tgt := 32) dX1_isOneGroup_28 rfl ?_
    exact rn_ret dX1_isOneGroup_32 trivial (by simp_all [bI, Int32.le_iff_toInt_le, Int32.lt_iff_toInt_lt] <;> omega)
end L2
end
section
/-! Paths: what hangs on neither sizes nor corners -/
theorem pA_pA {S : jS} {k : Nat} {g1 g2 : Nat → Int32} : pA (pA S k g1) k g2 = pA S k g2 := by
  unfold pA
  congr 2
  funext a
  by_cases h : a = k <;> simp [up1, h]
theorem pA_id {S : jS} {k : Nat} {g : Nat → Int32} (h : g = S.2.1 k) : pA S k g = S := by
  subst h
  obtain ⟨a, b, c⟩ := S
  unfold pA
  congr 2
  funext x
  by_cases h : x = k <;> simp [up1, h]
theorem pA_eq {S : jS} {k : Nat} {g : Nat → Int32} : (pA S k g).2.1 k = g := if_pos rfl
theorem pA_ne {S : jS} {k a : Nat} {g : Nat → Int32} (h : a ≠ k) : (pA S k g).2.1 a = S.2.1 a := if_neg h
/-- the counts of a gate, with those of a feed added, for the starts below m -/
def jC (C : Nat → Int32) (g f m : Nat) : Nat → Int32 := fun x => if x % 16 = g ∧ x / 16 < m then C x + C (x / 16 * 16 + f) else C x
theorem nI_below {v : Int32} {n : Nat} (h0 : 0 ≤ v) (h1 : v < nI n) (hn : n < 2 ^ 31) : ∃ f, f < n ∧ v = nI f := by
  obtain ⟨j, hj, rfl⟩ := nI_of (x := v) (fun q => by rw [Int32.lt_iff_toInt_lt] at q; rw [Int32.le_iff_toInt_le] at h0; omega)
  exact ⟨j, (nI_ltI hj hn).mp h1, rfl⟩
theorem jC_0 (C : Nat → Int32) (g f : Nat) : jC C g f 0 = C := by
  funext x
  simp [jC]
theorem jC_s {C : Nat → Int32} {g f m : Nat} (hg : g < 16) (hf : f < 16) (hfg : f ≠ g) : upd (jC C g f m) (m * 16 + g) (jC C g f m (m * 16 + g) + jC C g f m (m * 16 + f)) = jC C g f (m + 1) := by
  funext x
  unfold upd jC
  by_cases h : x = m * 16 + g
  · subst h
    rw [if_pos rfl, if_neg (by omega), if_neg (by omega), if_pos ⟨by omega, by omega⟩, show (m * 16 + g) / 16 = m by omega]
  · rw [if_neg h]
    by_cases h2 : x % 16 = g ∧ x / 16 < m
    · rw [if_pos h2, if_pos ⟨h2.1, by omega⟩]
    · rw [if_neg h2, if_neg (fun z => h2 ⟨z.1, by omega⟩)]
section P1
variable {l : Launch} {D : va_G} {ad : Nat → Nat} {tc : Nat → ClassId} {L : Nat} {xs : Nat → Int32} {S : jS} {E : List j_C} {sl : Nat}
set_option maxRecDepth 20000 in
theorem lp_X6_join {f g : Nat} (hf : f < 16) (hg : g < 16) (hfg : f ≠ g) : ∀ k m : Nat, m + k = f + 1 → Rn l D ad tc L xs mX6_join 1 21 29 [(3, .int (nI m)), (0, .ref 39), (1, .int (nI g)), (2, .int (nI f))] [] (wd (pA S 41 (jC (S.2.1 41) g f m)) E, sl) none (wd (pA S 41 (jC (S.2.1 41) g f (f + 1))) E, sl) := by
  intro k
  induction k with
  | zero =>
    intro m hm
    have hm' : m = f + 1 := by omega
    subst hm'
    refine rn_iload_n dX6_join_29 rfl ?_
    refine rn_iload_n dX6_join_30 rfl ?_
    refine rn_icmp_gt (tgt := 65) dX6_join_31 rfl (fun _ => ?_) (fun q1 => absurd (by rw [Int32.lt_iff_toInt_lt, nI_toInt (by omega), nI_toInt (by omega)]; omega) q1)
    exact rn_ret dX6_join_65 trivial rfl
  | succ k ih =>
    intro m hm
    refine rn_iload_n dX6_join_29 rfl ?_
    refine rn_iload_n dX6_join_30 rfl ?_
    refine rn_icmp_gt (tgt := 65) dX6_join_31 rfl (fun q1 => absurd q1 (by rw [Int32.lt_iff_toInt_lt, nI_toInt (by omega), nI_toInt (by omega)] at q1; omega)) (fun _ => ?_)
    refine rn_aload_n dX6_join_34 rfl ?_
    refine rn_getfield dX6_join_35 fo_X6_18 h_paths rfl ?_
    refine rn_iload_n dX6_join_38 rfl ?_
    refine rn_bipush (v := nI 16) dX6_join_39 (by decide) ?_
    refine rn_imul dX6_join_41 ?_
    refine rn_topi (nI_mul _ _) ?_
    refine rn_iload_n dX6_join_42 rfl ?_
    refine rn_iadd dX6_join_43 ?_
    refine rn_topi (nI_add _ _) ?_
    refine rn_dup2 dX6_join_44 rfl rfl ?_
    refine rn_iaload dX6_join_45 h_counts rfl (vp_in_nI (by omega) (by decide)) ?_
    rw [nI_clamp (by omega)]
    refine rn_aload_n dX6_join_46 rfl ?_
    refine rn_getfield dX6_join_47 fo_X6_18 h_paths rfl ?_
    refine rn_iload_n dX6_join_50 rfl ?_
    refine rn_bipush (v := nI 16) dX6_join_51 (by decide) ?_
    refine rn_imul dX6_join_53 ?_
    refine rn_topi (nI_mul _ _) ?_
    refine rn_iload_n dX6_join_54 rfl ?_
    refine rn_iadd dX6_join_55 ?_
    refine rn_topi (nI_add _ _) ?_
    refine rn_iaload dX6_join_56 h_counts rfl (vp_in_nI (by omega) (by decide)) ?_
    rw [nI_clamp (by omega)]
    refine rn_iadd dX6_join_57 ?_
    refine rn_pA dX6_join_58 (by decide) rfl (fun _ => rfl) (vp_in_nI (by omega) (by decide)) ?_
    rw [nI_clamp (by omega)]
    refine rn_eq (h2 := (wd (pA S 41 (jC (S.2.1 41) g f (m + 1))) E, sl)) (by rw [pA_pA]; show (wd (pA S 41 (upd (jC (S.2.1 41) g f m) (m * 16 + g) (jC (S.2.1 41) g f m (m * 16 + g) + jC (S.2.1 41) g f m (m * 16 + f)))) E, sl) = _; rw [jC_s hg hf hfg]) ?_
    refine rn_iinc dX6_join_59 rfl (nI_1 _) (by decide) rfl ?_
    refine rn_goto (tgt := 29) dX6_join_62 rfl ?_
    exact rn_subg rfl (ih (m + 1) (by omega))
/-- what join leaves: of no feed, nothing -/
def sJoin (S : jS) (n g : Nat) (v : Int32) : jS := if 0 ≤ v ∧ v < nI n then pA (pA S 39 (upd (S.2.1 39) g (S.2.1 39 g ||| S.2.1 39 v.toNatClampNeg))) 41 (jC (S.2.1 41) g v.toNatClampNeg (v.toNatClampNeg + 1)) else S
set_option maxRecDepth 20000 in
theorem c_X6_join {n g : Nat} {v : Int32} (hN : sI S 1 6 = nI n) (hn : n ≤ 16) (hg : g < 16) (hfg : ∀ f, v = nI f → f ≠ g) : Cn l D ad tc L xs mX6_join 1 21 [.ref 39, .int (nI g), .int v] (wd S E, sl) none (wd (sJoin S n g v) E, sl) := by
  refine cn_of (lv0 := [(0, .ref 39), (1, .int (nI g)), (2, .int v)]) (by decide +kernel) rfl (fun _ => by simp [lg_sl, j_v, Value.category]) (fun _ => rfl) ?_
  refine rn_aload_n dX6_join_0 rfl ?_
  refine rn_getfield dX6_join_1 fo_X6_24 h_paths rfl ?_
  refine rn_iload_n dX6_join_4 rfl ?_
  refine rn_callV dX6_join_5 cv_X6_65 c_X1_hasNode rfl h_chip rfl rfl (by decide) (by decide) rfl (by decide) ?_
  refine rn_if_ne (tgt := 12) dX6_join_8 rfl (fun q1 => ?_) (fun q1 => ?_)
  · have hv : 0 ≤ v ∧ v < nI n := by rw [bI_n, decide_eq_true_eq, hN] at q1; exact q1
    obtain ⟨f, hf, rfl⟩ := nI_below hv.1 hv.2 (by omega)
    have hfg := hfg f rfl
    refine rn_aload_n dX6_join_12 rfl ?_
    refine rn_getfield dX6_join_13 fo_X6_9 h_paths rfl ?_
    refine rn_iload_n dX6_join_16 rfl ?_
    refine rn_dup2 dX6_join_17 rfl rfl ?_
    refine rn_iaload dX6_join_18 h_reach rfl (vp_in_nI (by omega) (by decide)) ?_
    rw [nI_clamp (by omega)]
    refine rn_aload_n dX6_join_19 rfl ?_
    refine rn_getfield dX6_join_20 fo_X6_9 h_paths rfl ?_
    refine rn_iload_n dX6_join_23 rfl ?_
    refine rn_iaload dX6_join_24 h_reach rfl (vp_in_nI (by omega) (by decide)) ?_
    rw [nI_clamp (by omega)]
    refine rn_ior dX6_join_25 ?_
    refine rn_pA dX6_join_26 (by decide) rfl (fun _ => rfl) (vp_in_nI (by omega) (by decide)) ?_
    rw [nI_clamp (by omega)]
    refine rn_iconst (v := 0) dX6_join_27 rfl ?_
    refine rn_istore_n dX6_join_28 (by decide) rfl ?_
    refine rn_eq (h2 := (wd (pA (pA S 39 (upd (S.2.1 39) g (S.2.1 39 g ||| S.2.1 39 f))) 41 (jC ((pA S 39 (upd (S.2.1 39) g (S.2.1 39 g ||| S.2.1 39 f))).2.1 41) g f 0)) E, sl)) (by rw [jC_0, pA_id rfl]) ?_
    have hend : sJoin S n g (nI f) = pA (pA S 39 (upd (S.2.1 39) g (S.2.1 39 g ||| S.2.1 39 f))) 41 (jC ((pA S 39 (upd (S.2.1 39) g (S.2.1 39 g ||| S.2.1 39 f))).2.1 41) g f (f + 1)) := by unfold sJoin; rw [if_pos hv, nI_clamp (by omega)]; rfl
    rw [hend]
    exact rn_subg rfl (lp_X6_join (S := (pA S 39 (upd (S.2.1 39) g (S.2.1 39 g ||| S.2.1 39 f)))) (by omega) hg hfg (f + 1) 0 (by omega))
  · have hv : ¬ (0 ≤ v ∧ v < nI n) := by rw [bI_0, decide_eq_false_iff_not, hN] at q1; exact q1
    exact rn_eq (by unfold sJoin; rw [if_neg hv]) (rn_ret dX6_join_11 trivial rfl)
end P1
end
section
/-! Paths and the chip: who comes where, who wins, the gap -/
section P2
variable {l : Launch} {D : va_G} {ad : Nat → Nat} {tc : Nat → ClassId} {L : Nat} {xs : Nat → Int32} {S : jS} {E : List j_C} {sl : Nat}
set_option maxRecDepth 20000 in
theorem c_X6_comesTo {n s e : Nat} (hn : n ≤ 16) (he : e < n) (hf : fe1 S e = -1 ∨ ∃ a, a < n ∧ fe1 S e = nI a) : Cn l D ad tc L xs mX6_comesTo 1 22 [.ref 39, .int (nI s), .int (nI e)] (wd S E, sl) (some (.int (bI (mCome S (sA S 39) s e)))) (wd S E, sl) := by
  refine cn_of (lv0 := [(0, .ref 39), (1, .int (nI s)), (2, .int (nI e))]) (by decide +kernel) ⟨_, rfl, bI_nar _⟩ (fun _ => by simp [lg_sl, j_v, Value.category]) (fun _ => rfl) ?_
  refine rn_aload_n dX6_comesTo_0 rfl ?_
  refine rn_getfield dX6_comesTo_1 fo_X6_24 h_paths rfl ?_
  refine rn_getfield dX6_comesTo_4 fo_X6_38 h_chip rfl ?_
  refine rn_iload_n dX6_comesTo_7 rfl ?_
  refine rn_aaload dX6_comesTo_8 h_nodes rfl (vp_in_nI (by omega) (by decide)) (refs_at rfl (by omega) (by decide)) ?_
  refine rn_getfield dX6_comesTo_9 fo_X6_51 (h_node (by omega)) rfl ?_
  refine rn_istore_n dX6_comesTo_12 (by decide) rfl ?_
  refine rn_aload_n dX6_comesTo_13 rfl ?_
  refine rn_getfield dX6_comesTo_14 fo_X6_24 h_paths rfl ?_
  refine rn_getfield dX6_comesTo_17 fo_X6_38 h_chip rfl ?_
  refine rn_iload_n dX6_comesTo_20 rfl ?_
  refine rn_aaload dX6_comesTo_21 h_nodes rfl (vp_in_nI (by omega) (by decide)) (refs_at rfl (by omega) (by decide)) ?_
  refine rn_callV dX6_comesTo_22 cv_X6_93 (c_X5_isEndKind (by omega)) rfl (h_node (by omega)) rfl rfl (by decide) (by decide) rfl (by decide) ?_
  refine rn_if_eq (tgt := 46) dX6_comesTo_25 rfl (fun q1 => ?_) (fun q1 => ?_)
  · refine rn_iconst (v := 0) dX6_comesTo_46 rfl ?_
    exact rn_ret dX6_comesTo_47 trivial (by simp_all [bI, mCome, bitR, enB, fe1] <;> grind)
  · refine rn_iload_n dX6_comesTo_28 rfl ?_
    refine rn_iconst (v := (-1)) dX6_comesTo_29 rfl ?_
    refine rn_icmp_eq (tgt := 46) dX6_comesTo_30 rfl (fun q2 => ?_) (fun q2 => ?_)
    · refine rn_iconst (v := 0) dX6_comesTo_46 rfl ?_
      exact rn_ret dX6_comesTo_47 trivial (by simp_all [bI, mCome, bitR, enB, fe1] <;> grind)
    · obtain ⟨a, ha, hfa⟩ := hf.resolve_left q2
      have hcl : (nI a).toNatClampNeg = a := nI_clamp (by omega)
      rw [show sI S (e + 13) 1 = nI a from hfa]
      refine rn_aload_n dX6_comesTo_33 rfl ?_
      refine rn_iload_n dX6_comesTo_34 rfl ?_
      refine rn_iload_n dX6_comesTo_35 rfl ?_
      refine rn_callV dX6_comesTo_36 cv_X6_96 (c_X6_reaches (by omega)) rfl h_paths rfl rfl (by decide) (by decide) rfl (by decide) ?_
      refine rn_if_eq (tgt := 46) dX6_comesTo_39 rfl (fun q3 => ?_) (fun q3 => ?_)
      · refine rn_iconst (v := 0) dX6_comesTo_46 rfl ?_
        exact rn_ret dX6_comesTo_47 trivial (by simp_all [bI, mCome, bitR, enB, fe1] <;> grind)
      · refine rn_iconst (v := 1) dX6_comesTo_42 rfl ?_
        refine rn_goto (tgt := 47) dX6_comesTo_43 rfl ?_
        exact rn_ret dX6_comesTo_47 trivial (by simp_all [bI, mCome, bitR, enB, fe1] <;> grind)
set_option maxRecDepth 20000 in
theorem lp_X1_winnerOf {s e nr : Nat} (hR : sI S 1 7 = nI nr) (hr : nr ≤ 6) : ∀ j k : Nat, k + j = nr → Rn l D ad tc L xs mX1_winnerOf 1 22 8 [(5, .int (nI k)), (4, .int (mWin S (nI s) (nI e) k).2), (3, .int (mWin S (nI s) (nI e) k).1), (0, .ref 2), (1, .int (nI s)), (2, .int (nI e))] [] (wd S E, sl) (some (.int (mWin S (nI s) (nI e) nr).1)) (wd S E, sl) := by
  intro j
  induction j with
  | zero =>
    intro k hk
    have hk' : k = nr := by omega
    subst hk'
    refine rn_iload dX1_winnerOf_8 rfl ?_
    refine rn_aload_n dX1_winnerOf_10 rfl ?_
    refine rn_getfield dX1_winnerOf_11 fo_X1_95 h_chip rfl ?_
    rw [hR]
    refine rn_icmp_ge (tgt := 68) dX1_winnerOf_14 rfl (fun _ => ?_) (fun q1 => absurd (by exact Int32.le_refl _) q1)
    refine rn_iload_n dX1_winnerOf_68 rfl ?_
    exact rn_ret dX1_winnerOf_69 trivial rfl
  | succ j ih =>
    intro k hk
    refine rn_iload dX1_winnerOf_8 rfl ?_
    refine rn_aload_n dX1_winnerOf_10 rfl ?_
    refine rn_getfield dX1_winnerOf_11 fo_X1_95 h_chip rfl ?_
    rw [hR]
    refine rn_icmp_ge (tgt := 68) dX1_winnerOf_14 rfl (fun q1 => absurd q1 (by rw [Int32.le_iff_toInt_le, nI_toInt (by omega), nI_toInt (by omega)] at q1; omega)) (fun _ => ?_)
    refine rn_aload_n dX1_winnerOf_17 rfl ?_
    refine rn_getfield dX1_winnerOf_18 fo_X1_31 h_chip rfl ?_
    refine rn_iload dX1_winnerOf_21 rfl ?_
    refine rn_aaload dX1_winnerOf_23 h_rules rfl (vp_in_nI (by omega) (by decide)) (refs_at rfl (by omega) (by decide)) ?_
    refine rn_iload_n dX1_winnerOf_24 rfl ?_
    refine rn_iload_n dX1_winnerOf_25 rfl ?_
    refine rn_callV dX1_winnerOf_26 cv_X1_107 (c_X7_fits (by omega)) rfl (h_rule (by omega)) rfl rfl (by decide) (by decide) rfl (by decide) ?_
    refine rn_if_eq (tgt := 62) dX1_winnerOf_29 rfl (fun q2 => ?_) (fun q2 => ?_)
    · refine rn_iinc dX1_winnerOf_62 rfl (nI_1 _) (by decide) rfl ?_
      refine rn_goto (tgt := 8) dX1_winnerOf_65 rfl ?_
      have hw : mWin S (nI s) (nI e) (k + 1) = mWin S (nI s) (nI e) k := by
        show (if mFits S k (nI s) (nI e) = true ∧ ¬ mWeight S k < (mWin S (nI s) (nI e) k).2 then (nI k, mWeight S k) else mWin S (nI s) (nI e) k) = _
        rw [if_neg (fun z => by have z1 := z.1; unfold mFits at z1; rw [bI_0] at q2; rw [q2] at z1; cases z1)]
      have ih := ih (k + 1) (by omega)
      rw [hw] at ih
      exact rn_subg rfl ih
    · refine rn_aload_n dX1_winnerOf_32 rfl ?_
      refine rn_getfield dX1_winnerOf_33 fo_X1_31 h_chip rfl ?_
      refine rn_iload dX1_winnerOf_36 rfl ?_
      refine rn_aaload dX1_winnerOf_38 h_rules rfl (vp_in_nI (by omega) (by decide)) (refs_at rfl (by omega) (by decide)) ?_
      refine rn_callV dX1_winnerOf_39 cv_X1_111 (c_X7_weight (by omega)) rfl (h_rule (by omega)) rfl rfl (by decide) (by decide) rfl (by decide) ?_
      refine rn_iload dX1_winnerOf_42 rfl ?_
      refine rn_icmp_lt (tgt := 62) dX1_winnerOf_44 rfl (fun q3 => ?_) (fun q3 => ?_)
      · refine rn_iinc dX1_winnerOf_62 rfl (nI_1 _) (by decide) rfl ?_
        refine rn_goto (tgt := 8) dX1_winnerOf_65 rfl ?_
        have hw : mWin S (nI s) (nI e) (k + 1) = mWin S (nI s) (nI e) k := by
          show (if mFits S k (nI s) (nI e) = true ∧ ¬ mWeight S k < (mWin S (nI s) (nI e) k).2 then (nI k, mWeight S k) else mWin S (nI s) (nI e) k) = _
          rw [if_neg (fun z => z.2 q3)]
        have ih := ih (k + 1) (by omega)
        rw [hw] at ih
        exact rn_subg rfl ih
      · refine rn_iload dX1_winnerOf_47 rfl ?_
        refine rn_istore_n dX1_winnerOf_49 (by decide) rfl ?_
        refine rn_aload_n dX1_winnerOf_50 rfl ?_
        refine rn_getfield dX1_winnerOf_51 fo_X1_31 h_chip rfl ?_
        refine rn_iload dX1_winnerOf_54 rfl ?_
        refine rn_aaload dX1_winnerOf_56 h_rules rfl (vp_in_nI (by omega) (by decide)) (refs_at rfl (by omega) (by decide)) ?_
        refine rn_callV dX1_winnerOf_57 cv_X1_111 (c_X7_weight (by omega)) rfl (h_rule (by omega)) rfl rfl (by decide) (by decide) rfl (by decide) ?_
        refine rn_istore dX1_winnerOf_60 (by decide) rfl ?_
        refine rn_iinc dX1_winnerOf_62 rfl (nI_1 _) (by decide) rfl ?_
        refine rn_goto (tgt := 8) dX1_winnerOf_65 rfl ?_
        have hw : mWin S (nI s) (nI e) (k + 1) = (nI k, mWeight S k) := by
          show (if mFits S k (nI s) (nI e) = true ∧ ¬ mWeight S k < (mWin S (nI s) (nI e) k).2 then (nI k, mWeight S k) else mWin S (nI s) (nI e) k) = _
          rw [if_pos ⟨by unfold mFits; rw [bI_n] at q2; exact q2, q3⟩]
        have ih := ih (k + 1) (by omega)
        rw [hw] at ih
        exact rn_subg rfl ih
set_option maxRecDepth 20000 in
theorem c_X1_winnerOf {s e nr : Nat} (hR : sI S 1 7 = nI nr) (hr : nr ≤ 6) : Cn l D ad tc L xs mX1_winnerOf 1 22 [.ref 2, .int (nI s), .int (nI e)] (wd S E, sl) (some (.int (mWin S (nI s) (nI e) nr).1)) (wd S E, sl) := by
  refine cn_of (lv0 := [(0, .ref 2), (1, .int (nI s)), (2, .int (nI e))]) (by decide +kernel) ⟨_, rfl, rfl⟩ (fun _ => by simp [lg_sl, j_v, Value.category]) (fun _ => rfl) ?_
  refine rn_iconst (v := (-1)) dX1_winnerOf_0 rfl ?_
  refine rn_istore_n dX1_winnerOf_1 (by decide) rfl ?_
  refine rn_iconst (v := 0) dX1_winnerOf_2 rfl ?_
  refine rn_istore dX1_winnerOf_3 (by decide) rfl ?_
  refine rn_iconst (v := 0) dX1_winnerOf_5 rfl ?_
  refine rn_istore dX1_winnerOf_6 (by decide) rfl ?_
  exact rn_subg rfl (lp_X1_winnerOf hR hr nr 0 (by omega))
set_option maxRecDepth 20000 in
/-- the greatest divisor stands when the second number is none -/
theorem lp_gd0 {a t : Nat} (ht : t < 64) : Rn l D ad tc L xs mX1_greatestDivisor 0 0 7 [(4, .int (nI t)), (3, .int (nI 0)), (2, .int (nI a))] [] (wd S E, sl) (some (.int (nI a))) (wd S E, sl) := by
  refine rn_iload dX1_greatestDivisor_7 rfl ?_
  refine rn_bipush (v := 64) dX1_greatestDivisor_9 rfl ?_
  refine rn_icmp_ge (tgt := 34) dX1_greatestDivisor_11 rfl (fun q1 => absurd q1 (by rw [show (64 : Int32) = nI 64 by decide, Int32.le_iff_toInt_le, nI_toInt (by omega), nI_toInt (by omega)] at q1; omega)) (fun _ => ?_)
  refine rn_iload_n dX1_greatestDivisor_14 rfl ?_
  refine rn_if_eq (tgt := 34) dX1_greatestDivisor_15 rfl (fun _ => ?_) (fun q2 => absurd (by decide) q2)
  refine rn_iload_n dX1_greatestDivisor_34 rfl ?_
  exact rn_ret dX1_greatestDivisor_35 trivial rfl
set_option maxRecDepth 20000 in
theorem lp_gd1 {a b t : Nat} {r : Option Value} (ht : t < 64) (ha : a < 2 ^ 31) (hb : b ≠ 0) (hb2 : b < 2 ^ 31) (k : Rn l D ad tc L xs mX1_greatestDivisor 0 0 7 [(4, .int (nI (t + 1))), (3, .int (nI (a % b))), (2, .int (nI b))] [] (wd S E, sl) r (wd S E, sl)) : Rn l D ad tc L xs mX1_greatestDivisor 0 0 7 [(4, .int (nI t)), (3, .int (nI b)), (2, .int (nI a))] [] (wd S E, sl) r (wd S E, sl) := by
  refine rn_iload dX1_greatestDivisor_7 rfl ?_
  refine rn_bipush (v := 64) dX1_greatestDivisor_9 rfl ?_
  refine rn_icmp_ge (tgt := 34) dX1_greatestDivisor_11 rfl (fun q1 => absurd q1 (by rw [show (64 : Int32) = nI 64 by decide, Int32.le_iff_toInt_le, nI_toInt (by omega), nI_toInt (by omega)] at q1; omega)) (fun _ => ?_)
  refine rn_iload_n dX1_greatestDivisor_14 rfl ?_
  refine rn_if_eq (tgt := 34) dX1_greatestDivisor_15 rfl (fun q2 => absurd q2 (by exact fun z => hb ((nI_eq (b := 0) (by omega) (by decide)).mp z))) (fun _ => ?_)
  refine rn_iload_n dX1_greatestDivisor_18 rfl ?_
  refine rn_iload_n dX1_greatestDivisor_19 rfl ?_
  refine rn_irem dX1_greatestDivisor_20 (fun z => hb ((nI_eq (b := 0) (by omega) (by decide)).mp z)) ?_
  refine rn_istore dX1_greatestDivisor_21 (by decide) rfl ?_
  refine rn_iload_n dX1_greatestDivisor_23 rfl ?_
  refine rn_istore_n dX1_greatestDivisor_24 (by decide) rfl ?_
  refine rn_iload dX1_greatestDivisor_25 rfl ?_
  refine rn_istore_n dX1_greatestDivisor_27 (by decide) rfl ?_
  refine rn_iinc dX1_greatestDivisor_28 rfl (nI_1 _) (by decide) rfl ?_
  refine rn_goto (tgt := 7) dX1_greatestDivisor_31 rfl ?_
  rw [pk_rem ha (by omega) (by omega)]
  exact rn_subg rfl k
theorem lp_gd : ∀ (j a b t : Nat), b < 2 ^ j → t + 2 * j < 64 → a < 2 ^ 31 → b < 2 ^ 31 → Rn l D ad tc L xs mX1_greatestDivisor 0 0 7 [(4, .int (nI t)), (3, .int (nI b)), (2, .int (nI a))] [] (wd S E, sl) (some (.int (nI (Nat.gcd a b)))) (wd S E, sl) := by
  intro j
  induction j with
  | zero =>
    intro a b t hb ht ha hb2
    have hb0 : b = 0 := by simpa using hb
    subst hb0
    rw [Nat.gcd_zero_right]
    exact lp_gd0 (by omega)
  | succ j ih =>
    intro a b t hb ht ha hb2
    by_cases hb0 : b = 0
    · subst hb0
      rw [Nat.gcd_zero_right]
      exact lp_gd0 (by omega)
    have gs : ∀ x y : Nat, Nat.gcd x y = Nat.gcd y (x % y) := fun x y => by rw [Nat.gcd_comm x y, Nat.gcd_rec y x, Nat.gcd_comm]
    have h1 : a % b < b := Nat.mod_lt _ (by omega)
    refine lp_gd1 (by omega) ha hb0 hb2 ?_
    rw [gs a b]
    by_cases hc : a % b = 0
    · rw [hc, Nat.gcd_zero_right]
      exact lp_gd0 (by omega)
    have h2 : b % (a % b) < a % b := Nat.mod_lt _ (by omega)
    refine lp_gd1 (by omega) hb2 hc (by omega) ?_
    rw [gs b (a % b)]
    refine ih (a % b) (b % (a % b)) (t + 1 + 1) ?_ (by omega) (by omega) (by omega)
    have h3 : b % (a % b) + (a % b) ≤ b := by
      have := Nat.div_add_mod b (a % b)
      have h4 : 1 ≤ b / (a % b) := (Nat.le_div_iff_mul_le (by omega)).mpr (by omega)
      have h5 : (a % b) * 1 ≤ (a % b) * (b / (a % b)) := Nat.mul_le_mul_left _ h4
      omega
    rw [Nat.pow_succ] at hb
    omega
set_option maxRecDepth 20000 in
theorem c_X1_greatestDivisor {a b : Nat} (ha : a < 2 ^ 31) (hb : b < 2 ^ 31) : Cn l D ad tc L xs mX1_greatestDivisor 0 0 [.int (nI a), .int (nI b)] (wd S E, sl) (some (.int (nI (Nat.gcd a b)))) (wd S E, sl) := by
  refine cn_of (lv0 := [(0, .int (nI a)), (1, .int (nI b))]) (by decide +kernel) ⟨_, rfl, rfl⟩ (fun _ => by simp [lg_sl, j_v, Value.category]) (fun _ => rfl) ?_
  refine rn_iload_n dX1_greatestDivisor_0 rfl ?_
  refine rn_istore_n dX1_greatestDivisor_1 (by decide) rfl ?_
  refine rn_iload_n dX1_greatestDivisor_2 rfl ?_
  refine rn_istore_n dX1_greatestDivisor_3 (by decide) rfl ?_
  refine rn_iconst (v := 0) dX1_greatestDivisor_4 rfl ?_
  refine rn_istore dX1_greatestDivisor_5 (by decide) rfl ?_
  exact rn_subg rfl (lp_gd 31 a b 0 (by omega) (by omega) (by omega) (by omega))
set_option maxRecDepth 20000 in
theorem c_X1_gapOf {s e p q : Nat} {m : Int32} (hs : s < 16) (he : e < 16) (hv : ∀ i, i < 16 → sV S i < 4) (hp : sI S (sV S s + 6) 0 = nI p) (hq : sI S (sV S e + 6) 0 = nI q) (hp1 : p < 2 ^ 31) (hq1 : q < 2 ^ 31) : Cn l D ad tc L xs mX1_gapOf 1 25 [.ref 2, .int (nI s), .int (nI e), .int m] (wd S E, sl) (some (.int (nI (Nat.gcd p q) + (m - 1) * nI q))) (wd S E, sl) := by
  refine cn_of (lv0 := [(0, .ref 2), (1, .int (nI s)), (2, .int (nI e)), (3, .int m)]) (by decide +kernel) ⟨_, rfl, rfl⟩ (fun _ => by simp [lg_sl, j_v, Value.category]) (fun _ => rfl) ?_
  have hv1 := hv s hs
  have hv2 := hv e he
  refine rn_aload_n dX1_gapOf_0 rfl ?_
  refine rn_getfield dX1_gapOf_1 fo_X1_25 h_chip rfl ?_
  refine rn_iload_n dX1_gapOf_4 rfl ?_
  refine rn_aaload dX1_gapOf_5 h_nodes rfl (vp_in_nI (by omega) (by decide)) (refs_at rfl (by omega) (by decide)) ?_
  refine rn_getfield dX1_gapOf_6 fo_X1_91 (h_node (by omega)) rfl ?_
  refine rn_getfield dX1_gapOf_9 fo_X1_51 (h_clock (by omega)) rfl ?_
  rw [hq]
  refine rn_istore dX1_gapOf_12 (by decide) rfl ?_
  refine rn_aload_n dX1_gapOf_14 rfl ?_
  refine rn_getfield dX1_gapOf_15 fo_X1_25 h_chip rfl ?_
  refine rn_iload_n dX1_gapOf_18 rfl ?_
  refine rn_aaload dX1_gapOf_19 h_nodes rfl (vp_in_nI (by omega) (by decide)) (refs_at rfl (by omega) (by decide)) ?_
  refine rn_getfield dX1_gapOf_20 fo_X1_91 (h_node (by omega)) rfl ?_
  refine rn_getfield dX1_gapOf_23 fo_X1_51 (h_clock (by omega)) rfl ?_
  rw [hp]
  refine rn_iload dX1_gapOf_26 rfl ?_
  refine rn_callS dX1_gapOf_28 cs_X1_115 (c_X1_greatestDivisor hp1 hq1) rfl (by decide) (by decide) rfl (by decide) ?_
  refine rn_iload_n dX1_gapOf_31 rfl ?_
  refine rn_iconst (v := 1) dX1_gapOf_32 rfl ?_
  refine rn_isub dX1_gapOf_33 ?_
  refine rn_iload dX1_gapOf_34 rfl ?_
  refine rn_imul dX1_gapOf_36 ?_
  refine rn_iadd dX1_gapOf_37 ?_
  exact rn_ret dX1_gapOf_38 trivial rfl
end P2
end
section
/-! Paths: check and prepare -/
theorem pA_ext {S : jS} {g h : Nat → Nat → Int32} (e : ∀ a, g a = h a) : ((S.1, g, S.2.2) : jS) = (S.1, h, S.2.2) := by rw [show g = h from funext e]
def mCB (S : jS) (R : Nat → Int32) (nr e : Nat) : Nat → Int32
  | 0 => 0
  | m + 1 => if mChk S R nr m e = true then mCB S R nr e m ||| (1 <<< (nI m &&& 31)) else mCB S R nr e m
def gC (S : jS) (R : Nat → Int32) (nr e : Nat) (G : Nat → Int32) (m : Nat) : Nat → Int32 := fun x => if x % 16 = e ∧ x / 16 < m ∧ mChk S R nr (x / 16) e = true then mGap S (x / 16) e nr else G x
/-- what check of the end e leaves behind m starts -/
def sChk (S : jS) (nr e m : Nat) : jS := pA (pA S 40 (upd (S.2.1 40) e (mCB S (S.2.1 39) nr e m))) 42 (gC S (S.2.1 39) nr e (S.2.1 42) m)
theorem sChk_0 {S : jS} {nr e : Nat} : sChk S nr e 0 = pA S 40 (upd (S.2.1 40) e 0) := by
  unfold sChk
  refine pA_id ?_
  funext x
  show _ = S.2.1 42 x
  simp [gC]
theorem sChk_f {S : jS} {nr e m : Nat} (he : e < 16) (h : mChk S (S.2.1 39) nr m e = false) : sChk S nr e (m + 1) = sChk S nr e m := by
  unfold sChk
  congr 1
  · congr 2
    unfold mCB
    rw [if_neg (by rw [h]; decide)]
    cases m <;> rfl
  · funext x
    unfold gC
    by_cases h1 : x % 16 = e ∧ x / 16 < m ∧ mChk S (S.2.1 39) nr (x / 16) e = true
    · rw [if_pos h1, if_pos ⟨h1.1, by omega, h1.2.2⟩]
    · rw [if_neg h1, if_neg]
      intro z
      by_cases h2 : x / 16 = m
      · rw [h2, h] at z
        exact absurd z.2.2 (by decide)
      · exact h1 ⟨z.1, by omega, z.2.2⟩
theorem sChk_t {S : jS} {nr e m : Nat} (he : e < 16) (h : mChk S (S.2.1 39) nr m e = true) : pA (pA (sChk S nr e m) 40 (upd (S.2.1 40) e (mCB S (S.2.1 39) nr e m ||| (1 <<< (nI m &&& 31))))) 42 (upd (gC S (S.2.1 39) nr e (S.2.1 42) m) (m * 16 + e) (mGap S m e nr)) = sChk S nr e (m + 1) := by
  have e1 : mCB S (S.2.1 39) nr e (m + 1) = mCB S (S.2.1 39) nr e m ||| (1 <<< (nI m &&& 31)) := by
    show (if mChk S (S.2.1 39) nr m e = true then _ else _) = _
    rw [if_pos h]
  have e2 : upd (gC S (S.2.1 39) nr e (S.2.1 42) m) (m * 16 + e) (mGap S m e nr) = gC S (S.2.1 39) nr e (S.2.1 42) (m + 1) := by
    funext x
    unfold upd gC
    by_cases h1 : x = m * 16 + e
    · subst h1
      rw [if_pos rfl, show (m * 16 + e) / 16 = m by omega, if_pos ⟨by omega, by omega, h⟩]
    · rw [if_neg h1]
      by_cases h2 : x % 16 = e ∧ x / 16 < m ∧ mChk S (S.2.1 39) nr (x / 16) e = true
      · rw [if_pos h2, if_pos ⟨h2.1, by omega, h2.2.2⟩]
      · rw [if_neg h2, if_neg]
        intro z
        exact h2 ⟨z.1, by omega, z.2.2⟩
  rw [e2]
  unfold sChk
  rw [e1]
  refine pA_ext fun a => ?_
  show up1 (up1 (up1 (up1 S.2.1 40 _) 42 _) 40 _) 42 _ a = up1 (up1 S.2.1 40 _) 42 _ a
  by_cases h42 : a = 42
  · simp [up1, h42]
  · by_cases h40 : a = 40
    · simp [up1, h40]
    · simp [up1, h42, h40]
theorem upd_upd {f : Nat → Int32} {k : Nat} {a b : Int32} : upd (upd f k a) k b = upd f k b := by
  funext x
  unfold upd
  by_cases h : x = k <;> simp [h]
theorem upd_self {f : Nat → Int32} {k : Nat} {a : Int32} : upd f k a k = a := if_pos rfl
theorem sChk_t' {S : jS} {nr e m : Nat} (he : e < 16) (h : mChk S (S.2.1 39) nr m e = true) : pA (pA (sChk S nr e m) 40 (upd ((sChk S nr e m).2.1 40) e ((sChk S nr e m).2.1 40 e ||| (1 <<< (nI m &&& 31))))) 42 (upd (gC S (S.2.1 39) nr e (S.2.1 42) m) (m * 16 + e) (mGap S m e nr)) = sChk S nr e (m + 1) := by
  rw [← sChk_t he h]
  have e1 : (sChk S nr e m).2.1 40 = upd (S.2.1 40) e (mCB S (S.2.1 39) nr e m) := rfl
  rw [e1, upd_upd, upd_self]
theorem mWin_c {S S' : jS} (h : S'.1 = S.1) {s e : Int32} : ∀ k, mWin S' s e k = mWin S s e k
  | 0 => rfl
  | k + 1 => by
    have f1 : mFits S' k s e = mFits S k s e := by unfold mFits sI; rw [h]
    have f2 : mWeight S' k = mWeight S k := by unfold mWeight sI; rw [h]
    show (if mFits S' k s e = true ∧ ¬ mWeight S' k < (mWin S' s e k).2 then (nI k, mWeight S' k) else mWin S' s e k) = (if mFits S k s e = true ∧ ¬ mWeight S k < (mWin S s e k).2 then (nI k, mWeight S k) else mWin S s e k)
    rw [f1, f2, mWin_c h k]
section P3
variable {l : Launch} {D : va_G} {ad : Nat → Nat} {tc : Nat → ClassId} {L : Nat} {xs : Nat → Int32} {S : jS} {E : List j_C} {sl : Nat}
set_option maxRecDepth 20000 in
theorem lp_X6_check {n nr nc nk e : Nat} (hT : Told S n nr nc nk) (he : e < n) : ∀ j m : Nat, m + j = n → Rn l D ad tc L xs mX6_check 2 49 9 [(2, .int (nI m)), (0, .ref 39), (1, .int (nI e))] [] (wd (sChk S nr e m) E, sl) none (wd (sChk S nr e n) E, sl) := by
  obtain ⟨⟨hN, hn⟩, ⟨hR, hr⟩, -, -, hv, hnd, -, hck, -, hru⟩ := id hT
  intro j
  induction j with
  | zero =>
    intro m hm
    have hm' : m = n := by omega
    subst hm'
    refine rn_iload_n dX6_check_9 rfl ?_
    refine rn_aload_n dX6_check_10 rfl ?_
    refine rn_getfield dX6_check_11 fo_X6_24 h_paths rfl ?_
    refine rn_getfield dX6_check_14 fo_X6_32 h_chip rfl ?_
    rw [show sI (sChk S nr e _) 1 6 = _ from hN]
    refine rn_icmp_ge (tgt := 119) dX6_check_17 rfl (fun _ => ?_) (fun q1 => absurd (by exact Int32.le_refl _) q1)
    exact rn_ret dX6_check_119 trivial rfl
  | succ j ih =>
    intro m hm
    have ih := ih (m + 1) (by omega)
    have hnd1 := (hnd e he).2.1
    obtain ⟨p, hp1, hp⟩ := (hck _ (hv m (by omega))).1
    obtain ⟨q, hq1, hq⟩ := (hck _ (hv e (by omega))).1
    have hgap : nI (Nat.gcd p q) + (mSort S m e nr - 1) * nI q = mGap S m e nr := by unfold mGap; rw [hp, hq, nI_clamp (by omega), nI_clamp (by omega)]
    refine rn_iload_n dX6_check_9 rfl ?_
    refine rn_aload_n dX6_check_10 rfl ?_
    refine rn_getfield dX6_check_11 fo_X6_24 h_paths rfl ?_
    refine rn_getfield dX6_check_14 fo_X6_32 h_chip rfl ?_
    rw [show sI (sChk S nr e _) 1 6 = _ from hN]
    refine rn_icmp_ge (tgt := 119) dX6_check_17 rfl (fun q1 => absurd q1 (by rw [Int32.le_iff_toInt_le, nI_toInt (by omega), nI_toInt (by omega)] at q1; omega)) (fun _ => ?_)
    refine rn_aload_n dX6_check_20 rfl ?_
    refine rn_iload_n dX6_check_21 rfl ?_
    refine rn_iload_n dX6_check_22 rfl ?_
    refine rn_callV dX6_check_23 cv_X6_69 (c_X6_comesTo (n := n) hn he hnd1) rfl h_paths rfl rfl (by decide) (by decide) rfl (Nat.le_of_ble_eq_true rfl) ?_
    refine rn_if_eq (tgt := 113) dX6_check_26 rfl (fun q2 => ?_) (fun q2 => ?_)
    · rw [bI_0] at q2
      replace q2 : mCome S (S.2.1 39) m e = false := q2
      have hcf : mChk S (S.2.1 39) nr m e = false := by unfold mChk; rw [q2]; rfl
      rw [← sChk_f (by omega) hcf]
      exact rn_iinc dX6_check_113 rfl (nI_1 _) (by decide) rfl (rn_goto (tgt := 9) dX6_check_116 rfl (rn_subg rfl ih))
    · rw [bI_n] at q2
      replace q2 : mCome S (S.2.1 39) m e = true := q2
      refine rn_aload_n dX6_check_29 rfl ?_
      refine rn_getfield dX6_check_30 fo_X6_24 h_paths rfl ?_
      refine rn_iload_n dX6_check_33 rfl ?_
      refine rn_iload_n dX6_check_34 rfl ?_
      refine rn_callV dX6_check_35 cv_X6_73 (c_X1_isOneGroup (by omega) (by omega) hv) rfl h_chip rfl rfl (by decide) (by decide) rfl (Nat.le_of_ble_eq_true rfl) ?_
      refine rn_if_eq (tgt := 113) dX6_check_38 rfl (fun q3 => ?_) (fun q3 => ?_)
      · rw [bI_0] at q3
        replace q3 : mGrp S m e = false := q3
        have hcf : mChk S (S.2.1 39) nr m e = false := by unfold mChk; rw [q2, q3]; rfl
        rw [← sChk_f (by omega) hcf]
        exact rn_iinc dX6_check_113 rfl (nI_1 _) (by decide) rfl (rn_goto (tgt := 9) dX6_check_116 rfl (rn_subg rfl ih))
      · rw [bI_n] at q3
        replace q3 : mGrp S m e = true := q3
        refine rn_aload_n dX6_check_41 rfl ?_
        refine rn_getfield dX6_check_42 fo_X6_24 h_paths rfl ?_
        refine rn_iload_n dX6_check_45 rfl ?_
        refine rn_iload_n dX6_check_46 rfl ?_
        refine rn_callV dX6_check_47 cv_X6_76 (c_X1_winnerOf hR hr) rfl h_chip rfl rfl (by decide) (by decide) rfl (Nat.le_of_ble_eq_true rfl) ?_
        rw [mWin_c (S := S) (S' := sChk S nr e m) rfl nr]
        refine rn_istore_n dX6_check_50 (by decide) rfl ?_
        refine rn_iload_n dX6_check_51 rfl ?_
        refine rn_iconst (v := (-1)) dX6_check_52 rfl ?_
        refine rn_icmp_ne (tgt := 60) dX6_check_53 rfl (fun q4 => ?_) (fun q4 => ?_)
        · replace q4 : ¬ (mWin S (nI m) (nI e) nr).1 = -1 := q4
          obtain ⟨i, hi, hwi⟩ := (mWin_r S (nI m) (nI e) nr).resolve_left q4
          have hsort : sI S (i + 29) 0 = mSort S m e nr := by unfold mSort; rw [if_neg q4, hwi, nI_clamp (by omega)]
          refine rn_aload_n dX6_check_60 rfl ?_
          refine rn_getfield dX6_check_61 fo_X6_24 h_paths rfl ?_
          
          refine rn_getfield dX6_check_64 fo_X6_80 h_chip rfl ?_
          refine rn_iload_n dX6_check_67 rfl ?_
          rw [hwi]
          refine rn_aaload dX6_check_68 h_rules rfl (vp_in_nI (by omega) (by decide)) (refs_at rfl (by omega) (by decide)) ?_
          refine rn_getfield dX6_check_69 fo_X6_84 (h_rule (by omega)) rfl ?_
          refine rn_topi (y := mSort S m e nr) hsort ?_
          refine rn_istore dX6_check_72 (by decide) rfl ?_
          refine rn_iload dX6_check_74 rfl ?_
          refine rn_if_eq (tgt := 113) dX6_check_76 rfl (fun q5 => ?_) (fun q5 => ?_)
          · have hcf : mChk S (S.2.1 39) nr m e = false := by unfold mChk; rw [q2, q3, decide_eq_false (fun z => z q5)]; rfl
            rw [← sChk_f (by omega) hcf]
            exact rn_iinc dX6_check_113 rfl (nI_1 _) (by decide) rfl (rn_goto (tgt := 9) dX6_check_116 rfl (rn_subg rfl ih))
          · have hct : mChk S (S.2.1 39) nr m e = true := by unfold mChk; rw [q2, q3, decide_eq_true q5]; rfl
            refine rn_aload_n dX6_check_79 rfl ?_
            refine rn_getfield dX6_check_80 fo_X6_15 h_paths rfl ?_
            refine rn_iload_n dX6_check_83 rfl ?_
            refine rn_dup2 dX6_check_84 rfl rfl ?_
            refine rn_iaload dX6_check_85 h_checked rfl (vp_in_nI (by omega) (by decide)) ?_
            rw [nI_clamp (by omega)]
            refine rn_iconst (v := 1) dX6_check_86 rfl ?_
            refine rn_iload_n dX6_check_87 rfl ?_
            refine rn_ishl dX6_check_88 ?_
            refine rn_ior dX6_check_89 ?_
            refine rn_pA dX6_check_90 (by decide) rfl (fun _ => rfl) (vp_in_nI (by omega) (by decide)) ?_
            rw [nI_clamp (by omega)]
            refine rn_aload_n dX6_check_91 rfl ?_
            refine rn_getfield dX6_check_92 fo_X6_21 h_paths rfl ?_
            refine rn_iload_n dX6_check_95 rfl ?_
            refine rn_bipush (v := nI 16) dX6_check_96 (by decide) ?_
            refine rn_imul dX6_check_98 ?_
            refine rn_topi (nI_mul _ _) ?_
            refine rn_iload_n dX6_check_99 rfl ?_
            refine rn_iadd dX6_check_100 ?_
            refine rn_topi (nI_add _ _) ?_
            refine rn_aload_n dX6_check_101 rfl ?_
            refine rn_getfield dX6_check_102 fo_X6_24 h_paths rfl ?_
            refine rn_iload_n dX6_check_105 rfl ?_
            refine rn_iload_n dX6_check_106 rfl ?_
            refine rn_iload dX6_check_107 rfl ?_
            refine rn_callV dX6_check_109 cv_X6_89 (c_X1_gapOf (by omega) (by omega) hv hp hq (by omega) (by omega)) rfl h_chip rfl rfl (by decide) (by decide) rfl (Nat.le_of_ble_eq_true rfl) ?_
            refine rn_topi (y := mGap S m e nr) hgap ?_
            refine rn_pA dX6_check_112 (by decide) rfl (fun _ => rfl) (vp_in_nI (by omega) (by decide)) ?_
            rw [nI_clamp (by omega)]
            refine rn_eq (congrArg (fun x => (wd x E, sl)) (sChk_t' (by omega) hct)) ?_
            exact rn_iinc dX6_check_113 rfl (nI_1 _) (by decide) rfl (rn_goto (tgt := 9) dX6_check_116 rfl (rn_subg rfl ih))
        · replace q4 : (mWin S (nI m) (nI e) nr).1 = -1 := q4
          have hsort : (1 : Int32) = mSort S m e nr := by unfold mSort; rw [if_pos q4]
          refine rn_iconst (v := 1) dX6_check_56 rfl ?_
          refine rn_goto (tgt := 72) dX6_check_57 rfl ?_
          refine rn_topi (y := mSort S m e nr) hsort ?_
          refine rn_istore dX6_check_72 (by decide) rfl ?_
          refine rn_iload dX6_check_74 rfl ?_
          refine rn_if_eq (tgt := 113) dX6_check_76 rfl (fun q6 => ?_) (fun q6 => ?_)
          · have hcf : mChk S (S.2.1 39) nr m e = false := by unfold mChk; rw [q2, q3, decide_eq_false (fun z => z q6)]; rfl
            rw [← sChk_f (by omega) hcf]
            exact rn_iinc dX6_check_113 rfl (nI_1 _) (by decide) rfl (rn_goto (tgt := 9) dX6_check_116 rfl (rn_subg rfl ih))
          · have hct : mChk S (S.2.1 39) nr m e = true := by unfold mChk; rw [q2, q3, decide_eq_true q6]; rfl
            refine rn_aload_n dX6_check_79 rfl ?_
            refine rn_getfield dX6_check_80 fo_X6_15 h_paths rfl ?_
            refine rn_iload_n dX6_check_83 rfl ?_
            refine rn_dup2 dX6_check_84 rfl rfl ?_
            refine rn_iaload dX6_check_85 h_checked rfl (vp_in_nI (by omega) (by decide)) ?_
            rw [nI_clamp (by omega)]
            refine rn_iconst (v := 1) dX6_check_86 rfl ?_
            refine rn_iload_n dX6_check_87 rfl ?_
            refine rn_ishl dX6_check_88 ?_
            refine rn_ior dX6_check_89 ?_
            refine rn_pA dX6_check_90 (by decide) rfl (fun _ => rfl) (vp_in_nI (by omega) (by decide)) ?_
            rw [nI_clamp (by omega)]
            refine rn_aload_n dX6_check_91 rfl ?_
            refine rn_getfield dX6_check_92 fo_X6_21 h_paths rfl ?_
            refine rn_iload_n dX6_check_95 rfl ?_
            refine rn_bipush (v := nI 16) dX6_check_96 (by decide) ?_
            refine rn_imul dX6_check_98 ?_
            refine rn_topi (nI_mul _ _) ?_
            refine rn_iload_n dX6_check_99 rfl ?_
            refine rn_iadd dX6_check_100 ?_
            refine rn_topi (nI_add _ _) ?_
            refine rn_aload_n dX6_check_101 rfl ?_
            refine rn_getfield dX6_check_102 fo_X6_24 h_paths rfl ?_
            refine rn_iload_n dX6_check_105 rfl ?_
            refine rn_iload_n dX6_check_106 rfl ?_
            refine rn_iload dX6_check_107 rfl ?_
            refine rn_callV dX6_check_109 cv_X6_89 (c_X1_gapOf (by omega) (by omega) hv hp hq (by omega) (by omega)) rfl h_chip rfl rfl (by decide) (by decide) rfl (Nat.le_of_ble_eq_true rfl) ?_
            refine rn_topi (y := mGap S m e nr) hgap ?_
            refine rn_pA dX6_check_112 (by decide) rfl (fun _ => rfl) (vp_in_nI (by omega) (by decide)) ?_
            rw [nI_clamp (by omega)]
            refine rn_eq (congrArg (fun x => (wd x E, sl)) (sChk_t' (by omega) hct)) ?_
            exact rn_iinc dX6_check_113 rfl (nI_1 _) (by decide) rfl (rn_goto (tgt := 9) dX6_check_116 rfl (rn_subg rfl ih))
set_option maxRecDepth 20000 in
theorem c_X6_check {n nr nc nk e : Nat} (hT : Told S n nr nc nk) (he : e < n) : Cn l D ad tc L xs mX6_check 2 49 [.ref 39, .int (nI e)] (wd S E, sl) none (wd (sChk S nr e n) E, sl) := by
  refine cn_of (lv0 := [(0, .ref 39), (1, .int (nI e))]) (by decide +kernel) rfl (fun _ => by simp [lg_sl, j_v, Value.category]) (fun _ => rfl) ?_
  have hn := hT.1.2
  refine rn_aload_n dX6_check_0 rfl ?_
  refine rn_getfield dX6_check_1 fo_X6_15 h_paths rfl ?_
  refine rn_iload_n dX6_check_4 rfl ?_
  refine rn_iconst (v := 0) dX6_check_5 rfl ?_
  refine rn_pA dX6_check_6 (by decide) rfl (fun _ => rfl) (vp_in_nI (by omega) (by decide)) ?_
  rw [nI_clamp (by omega)]
  refine rn_iconst (v := 0) dX6_check_7 rfl ?_
  refine rn_istore_n dX6_check_8 (by decide) rfl ?_
  rw [← sChk_0 (nr := nr)]
  exact rn_subg rfl (lp_X6_check hT he n 0 (by omega))
end P3
end
section
/-! Paths: prepare -/
theorem Told_c {S S' : jS} {n nr nc nk : Nat} (h1 : S'.1 = S.1) (h2 : S'.2.2 = S.2.2) (h : Told S n nr nc nk) : Told S' n nr nc nk := by
  obtain ⟨a, b, c⟩ := S
  obtain ⟨a', b', c'⟩ := S'
  cases h1
  cases h2
  exact h
def zC (C : Nat → Int32) (g m : Nat) : Nat → Int32 := fun x => if x % 16 = g ∧ x / 16 < m then 0 else C x
theorem zC_0 (C : Nat → Int32) (g : Nat) : zC C g 0 = C := by
  funext x
  simp [zC]
theorem zC_s {C : Nat → Int32} {g m : Nat} (hg : g < 16) : upd (zC C g m) (m * 16 + g) 0 = zC C g (m + 1) := by
  funext x
  unfold upd zC
  by_cases h : x = m * 16 + g
  · subst h
    rw [if_pos rfl, if_pos ⟨by omega, by omega⟩]
  · rw [if_neg h]
    by_cases h2 : x % 16 = g ∧ x / 16 < m
    · rw [if_pos h2, if_pos ⟨h2.1, by omega⟩]
    · rw [if_neg h2, if_neg (fun z => h2 ⟨z.1, by omega⟩)]
def sN1 (X : jS) (n m : Nat) : jS := pA (pA X 41 (zC (X.2.1 41) m n)) 39 (upd (X.2.1 39) m 0)
/-- what prepare does of the node m -/
def sN2 (X : jS) (n m : Nat) : jS := if stB X m = true then pA (pA (sN1 X n m) 39 (upd ((sN1 X n m).2.1 39) m (1 <<< (nI m &&& 31)))) 41 (upd ((sN1 X n m).2.1 41) (m * 16 + m) 1) else if gaB X m = true then sJoin (sJoin (sN1 X n m) n m (fe1 X m)) n m (fe2 X m) else sN1 X n m
def sPrep (S : jS) (n : Nat) : Nat → jS
  | 0 => S
  | m + 1 => sN2 (sPrep S n m) n m
def sChks (S : jS) (n nr : Nat) : Nat → jS
  | 0 => S
  | e + 1 => sChk (sChks S n nr e) nr e n
def sPaths (S : jS) (n nr : Nat) : jS := if sI S 38 5 = 0 then pI (sChks (sPrep S n n) n nr n) 38 5 1 else S
theorem sJoin_c (S : jS) (n g : Nat) (v : Int32) : (sJoin S n g v).1 = S.1 ∧ (sJoin S n g v).2.2 = S.2.2 := by
  unfold sJoin
  split <;> exact ⟨rfl, rfl⟩
theorem sN2_c (X : jS) (n m : Nat) : (sN2 X n m).1 = X.1 ∧ (sN2 X n m).2.2 = X.2.2 := by
  unfold sN2
  split
  · exact ⟨rfl, rfl⟩
  · split
    · exact ⟨(sJoin_c _ _ _ _).1.trans (sJoin_c _ _ _ _).1, (sJoin_c _ _ _ _).2.trans (sJoin_c _ _ _ _).2⟩
    · exact ⟨rfl, rfl⟩
theorem sPrep_c (S : jS) (n : Nat) : ∀ m, (sPrep S n m).1 = S.1 ∧ (sPrep S n m).2.2 = S.2.2
  | 0 => ⟨rfl, rfl⟩
  | m + 1 => ⟨(sN2_c _ _ _).1.trans (sPrep_c S n m).1, (sN2_c _ _ _).2.trans (sPrep_c S n m).2⟩
theorem sChks_c (S : jS) (n nr : Nat) : ∀ m, (sChks S n nr m).1 = S.1 ∧ (sChks S n nr m).2.2 = S.2.2
  | 0 => ⟨rfl, rfl⟩
  | m + 1 => sChks_c S n nr m
section P4
variable {l : Launch} {D : va_G} {ad : Nat → Nat} {tc : Nat → ClassId} {L : Nat} {xs : Nat → Int32} {S : jS} {E : List j_C} {sl : Nat}
set_option maxRecDepth 20000 in
theorem lp_X6_prepZ {X : jS} {n m : Nat} {r : Option Value} {h' : j_H} (hN : sI X 1 6 = nI n) (hn : n ≤ 16) (hm : m < 16) (K : Rn l D ad tc L xs mX6_prepare 3 73 62 [(2, .ref (m + 14)), (1, .int (nI m)), (0, .ref 39)] [] (wd (pA X 41 (zC (X.2.1 41) m n)) E, sl) r h') : ∀ j k : Nat, k + j = n → Rn l D ad tc L xs mX6_prepare 3 73 33 [(3, .int (nI k)), (2, .ref (m + 14)), (1, .int (nI m)), (0, .ref 39)] [] (wd (pA X 41 (zC (X.2.1 41) m k)) E, sl) r h' := by
  intro j
  induction j with
  | zero =>
    intro k hk
    have hk' : k = n := by omega
    subst hk'
    refine rn_iload_n dX6_prepare_33 rfl ?_
    refine rn_aload_n dX6_prepare_34 rfl ?_
    refine rn_getfield dX6_prepare_35 fo_X6_24 h_paths rfl ?_
    refine rn_getfield dX6_prepare_38 fo_X6_32 h_chip rfl ?_
    rw [show sI (pA X 41 _) 1 6 = _ from hN]
    refine rn_icmp_ge (tgt := 62) dX6_prepare_41 rfl (fun _ => ?_) (fun q1 => absurd (by exact Int32.le_refl _) q1)
    exact rn_subg rfl K
  | succ j ih =>
    intro k hk
    refine rn_iload_n dX6_prepare_33 rfl ?_
    refine rn_aload_n dX6_prepare_34 rfl ?_
    refine rn_getfield dX6_prepare_35 fo_X6_24 h_paths rfl ?_
    refine rn_getfield dX6_prepare_38 fo_X6_32 h_chip rfl ?_
    rw [show sI (pA X 41 _) 1 6 = _ from hN]
    refine rn_icmp_ge (tgt := 62) dX6_prepare_41 rfl (fun q1 => absurd q1 (by rw [Int32.le_iff_toInt_le, nI_toInt (by omega), nI_toInt (by omega)] at q1; omega)) (fun _ => ?_)
    refine rn_aload_n dX6_prepare_44 rfl ?_
    refine rn_getfield dX6_prepare_45 fo_X6_18 h_paths rfl ?_
    refine rn_iload_n dX6_prepare_48 rfl ?_
    refine rn_bipush (v := nI 16) dX6_prepare_49 (by decide) ?_
    refine rn_imul dX6_prepare_51 ?_
    refine rn_topi (nI_mul _ _) ?_
    refine rn_iload_n dX6_prepare_52 rfl ?_
    refine rn_iadd dX6_prepare_53 ?_
    refine rn_topi (nI_add _ _) ?_
    refine rn_iconst (v := 0) dX6_prepare_54 rfl ?_
    refine rn_pA dX6_prepare_55 (by decide) rfl (fun _ => rfl) (vp_in_nI (by omega) (by decide)) ?_
    rw [nI_clamp (by omega)]
    refine rn_eq (h2 := (wd (pA X 41 (zC (X.2.1 41) m (k + 1))) E, sl)) (by rw [pA_pA]; show (wd (pA X 41 (upd (zC (X.2.1 41) m k) (k * 16 + m) 0)) E, sl) = _; rw [zC_s hm]) ?_
    refine rn_iinc dX6_prepare_56 rfl (nI_1 _) (by decide) rfl ?_
    refine rn_goto (tgt := 33) dX6_prepare_59 rfl ?_
    exact rn_subg rfl (ih (k + 1) (by omega))
set_option maxRecDepth 20000 in
theorem lp_X6_prepC {n nr nc nk : Nat} (hT : Told S n nr nc nk) : ∀ j e : Nat, e + j = n → Rn l D ad tc L xs mX6_prepare 3 73 133 [(1, .int (nI e)), (0, .ref 39)] [] (wd (sChks S n nr e) E, sl) none (wd (pI (sChks S n nr n) 38 5 1) E, sl) := by
  obtain ⟨⟨hN, hn⟩, ⟨hR, hr⟩, -, -, hv, hnd, -, hck, -, hru⟩ := id hT
  intro j
  induction j with
  | zero =>
    intro e he
    have he' : e = n := by omega
    subst he'
    have hN1 : sI (sChks S e nr e) 1 6 = nI e := by unfold sI; rw [(sChks_c _ _ _ _).1]; exact hN
    refine rn_iload_n dX6_prepare_133 rfl ?_
    refine rn_aload_n dX6_prepare_134 rfl ?_
    refine rn_getfield dX6_prepare_135 fo_X6_24 h_paths rfl ?_
    refine rn_getfield dX6_prepare_138 fo_X6_32 h_chip rfl ?_
    rw [hN1]
    refine rn_icmp_ge (tgt := 155) dX6_prepare_141 rfl (fun _ => ?_) (fun q1 => absurd (by exact Int32.le_refl _) q1)
    refine rn_aload_n dX6_prepare_155 rfl ?_
    refine rn_iconst (v := 1) dX6_prepare_156 rfl ?_
    refine rn_pI dX6_prepare_157 fp_X6_28 (by decide) rfl rfl (by simp) ⟨rfl, rfl⟩ ⟨_, _, _, rfl, rfl⟩ ?_
    exact rn_ret dX6_prepare_160 trivial rfl
  | succ j ih =>
    intro e he
    have hN1 : sI (sChks S n nr e) 1 6 = nI n := by unfold sI; rw [(sChks_c _ _ _ _).1]; exact hN
    have hT1 : Told (sChks S n nr e) n nr nc nk := Told_c (sChks_c _ _ _ _).1 (sChks_c _ _ _ _).2 hT
    refine rn_iload_n dX6_prepare_133 rfl ?_
    refine rn_aload_n dX6_prepare_134 rfl ?_
    refine rn_getfield dX6_prepare_135 fo_X6_24 h_paths rfl ?_
    refine rn_getfield dX6_prepare_138 fo_X6_32 h_chip rfl ?_
    rw [hN1]
    refine rn_icmp_ge (tgt := 155) dX6_prepare_141 rfl (fun q1 => absurd q1 (by rw [Int32.le_iff_toInt_le, nI_toInt (by omega), nI_toInt (by omega)] at q1; omega)) (fun _ => ?_)
    refine rn_aload_n dX6_prepare_144 rfl ?_
    refine rn_iload_n dX6_prepare_145 rfl ?_
    refine rn_callV dX6_prepare_146 cv_X6_61 (c_X6_check hT1 (by omega)) rfl h_paths rfl rfl (by decide) (by decide) rfl (Nat.le_of_ble_eq_true rfl) ?_
    refine rn_iinc dX6_prepare_149 rfl (nI_1 _) (by decide) rfl ?_
    refine rn_goto (tgt := 133) dX6_prepare_152 rfl ?_
    exact rn_subg rfl (ih (e + 1) (by omega))
set_option maxRecDepth 20000 in
theorem lp_X6_prepN {n nr nc nk : Nat} (hT : Told S n nr nc nk) : ∀ j m : Nat, m + j = n → Rn l D ad tc L xs mX6_prepare 3 73 10 [(1, .int (nI m)), (0, .ref 39)] [] (wd (sPrep S n m) E, sl) none (wd (pI (sChks (sPrep S n n) n nr n) 38 5 1) E, sl) := by
  obtain ⟨⟨hN, hn⟩, ⟨hR, hr⟩, -, -, hv, hnd, -, hck, -, hru⟩ := id hT
  intro j
  induction j with
  | zero =>
    intro m hm
    have hm' : m = n := by omega
    subst hm'
    have hN1 : sI (sPrep S m m) 1 6 = nI m := by unfold sI; rw [(sPrep_c _ _ _).1]; exact hN
    refine rn_iload_n dX6_prepare_10 rfl ?_
    refine rn_aload_n dX6_prepare_11 rfl ?_
    refine rn_getfield dX6_prepare_12 fo_X6_24 h_paths rfl ?_
    refine rn_getfield dX6_prepare_15 fo_X6_32 h_chip rfl ?_
    rw [hN1]
    refine rn_icmp_ge (tgt := 131) dX6_prepare_18 rfl (fun _ => ?_) (fun q1 => absurd (by exact Int32.le_refl _) q1)
    refine rn_iconst (v := 0) dX6_prepare_131 rfl ?_
    refine rn_istore_n dX6_prepare_132 (by decide) rfl ?_
    exact rn_subg rfl (lp_X6_prepC (S := sPrep S m m) (Told_c (sPrep_c _ _ _).1 (sPrep_c _ _ _).2 hT) m 0 (by omega))
  | succ j ih =>
    intro m hm
    have hN1 : sI (sPrep S n m) 1 6 = nI n := by unfold sI; rw [(sPrep_c _ _ _).1]; exact hN
    have ih := ih (m + 1) (by omega)
    refine rn_iload_n dX6_prepare_10 rfl ?_
    refine rn_aload_n dX6_prepare_11 rfl ?_
    refine rn_getfield dX6_prepare_12 fo_X6_24 h_paths rfl ?_
    refine rn_getfield dX6_prepare_15 fo_X6_32 h_chip rfl ?_
    rw [hN1]
    refine rn_icmp_ge (tgt := 131) dX6_prepare_18 rfl (fun q1 => absurd q1 (by rw [Int32.le_iff_toInt_le, nI_toInt (by omega), nI_toInt (by omega)] at q1; omega)) (fun _ => ?_)
    refine rn_aload_n dX6_prepare_21 rfl ?_
    refine rn_getfield dX6_prepare_22 fo_X6_24 h_paths rfl ?_
    refine rn_getfield dX6_prepare_25 fo_X6_38 h_chip rfl ?_
    refine rn_iload_n dX6_prepare_28 rfl ?_
    refine rn_aaload dX6_prepare_29 h_nodes rfl (vp_in_nI (by omega) (by decide)) (refs_at rfl (by omega) (by decide)) ?_
    refine rn_astore_n dX6_prepare_30 (by decide) rfl ?_
    refine rn_iconst (v := 0) dX6_prepare_31 rfl ?_
    refine rn_istore_n dX6_prepare_32 (by decide) rfl ?_
    refine rn_eq (h2 := (wd (pA (sPrep S n m) 41 (zC ((sPrep S n m).2.1 41) m 0)) E, sl)) (by rw [zC_0, pA_id rfl]) ?_
    refine rn_subg rfl (lp_X6_prepZ (X := sPrep S n m) hN1 hn (by omega) ?_ n 0 (by omega))
    refine rn_aload_n dX6_prepare_62 rfl ?_
    refine rn_getfield dX6_prepare_63 fo_X6_9 h_paths rfl ?_
    refine rn_iload_n dX6_prepare_66 rfl ?_
    refine rn_iconst (v := 0) dX6_prepare_67 rfl ?_
    refine rn_pA dX6_prepare_68 (by decide) rfl (fun _ => rfl) (vp_in_nI (by omega) (by decide)) ?_
    rw [nI_clamp (by omega)]
    refine rn_aload_n dX6_prepare_69 rfl ?_
    refine rn_callV dX6_prepare_70 cv_X6_42 (c_X5_isStart (by omega)) rfl (h_node (by omega)) rfl rfl (by decide) (by decide) rfl (Nat.le_of_ble_eq_true rfl) ?_
    refine rn_if_eq (tgt := 100) dX6_prepare_73 rfl (fun q2 => ?_) (fun q2 => ?_)
    · rw [bI_0] at q2
      replace q2 : stB (sPrep S n m) m = false := q2
      refine rn_aload_n dX6_prepare_100 rfl ?_
      refine rn_callV dX6_prepare_101 cv_X6_48 (c_X5_isGate (by omega)) rfl (h_node (by omega)) rfl rfl (by decide) (by decide) rfl (Nat.le_of_ble_eq_true rfl) ?_
      refine rn_if_eq (tgt := 125) dX6_prepare_104 rfl (fun q3 => ?_) (fun q3 => ?_)
      · rw [bI_0] at q3
        replace q3 : gaB (sPrep S n m) m = false := q3
        have hst : sN1 (sPrep S n m) n m = sPrep S n (m + 1) := by show _ = sN2 (sPrep S n m) n m; unfold sN2; rw [if_neg (by rw [q2]; decide), if_neg (by rw [q3]; decide)]
        refine rn_eq (congrArg (fun x => (wd x E, sl)) hst) (rn_iinc dX6_prepare_125 rfl (nI_1 _) (by decide) rfl (rn_goto (tgt := 10) dX6_prepare_128 rfl (rn_subg rfl ih)))
      · rw [bI_n] at q3
        replace q3 : gaB (sPrep S n m) m = true := q3
        have hN2 : sI (sN1 (sPrep S n m) n m) 1 6 = nI n := hN1
        have hN3 : sI (sJoin (sN1 (sPrep S n m) n m) n m (fe1 (sPrep S n m) m)) 1 6 = nI n := by unfold sI; rw [(sJoin_c _ _ _ _).1]; exact hN1
        have hT1 : Told (sPrep S n m) n nr nc nk := Told_c (sPrep_c _ _ _).1 (sPrep_c _ _ _).2 hT
        have hga : (1 : Int32) ≤ kd (sPrep S n m) m ∧ kd (sPrep S n m) m ≤ 5 := of_decide_eq_true q3
        have hk6 : kd (sPrep S n m) m ≠ 6 := fun z => by rw [z] at hga; exact absurd hga.2 (by decide)
        have hfm := hT1.2.2.2.2.2.1 m (by omega)
        have lt_of : ∀ v : Int32, (v = -1 ∨ ∃ a, a < m ∧ v = nI a) → ∀ f : Nat, v = nI f → f ≠ m := fun v hv f hf hfm => by
          subst hfm
          rcases hv with hv | ⟨a, ha, hv⟩
          · rw [hv] at hf
            have := congrArg Int32.toInt hf
            rw [nI_toInt (by omega)] at this
            exact absurd this (by have : (-1 : Int32).toInt = -1 := by decide
                                  omega)
          · have := (nI_eq (by omega) (by omega)).mp (hv.symm.trans hf)
            omega
        have j1 := lt_of _ (hfm.2.2.1 hk6)
        have j2 := lt_of _ hfm.2.2.2
        refine rn_aload_n dX6_prepare_107 rfl ?_
        refine rn_iload_n dX6_prepare_108 rfl ?_
        refine rn_aload_n dX6_prepare_109 rfl ?_
        refine rn_getfield dX6_prepare_110 fo_X6_51 (h_node (by omega)) rfl ?_
        refine rn_callV dX6_prepare_113 cv_X6_54 (c_X6_join (n := n) hN2 hn (by omega) j1) rfl h_paths rfl rfl (by decide) (by decide) rfl (Nat.le_of_ble_eq_true rfl) ?_
        refine rn_aload_n dX6_prepare_116 rfl ?_
        refine rn_iload_n dX6_prepare_117 rfl ?_
        refine rn_aload_n dX6_prepare_118 rfl ?_
        refine rn_getfield dX6_prepare_119 fo_X6_58 (h_node (by omega)) rfl ?_
        refine rn_topi (y := fe2 (sPrep S n m) m) (by unfold sI; rw [(sJoin_c _ _ _ _).1]; rfl) ?_
        refine rn_callV dX6_prepare_122 cv_X6_54 (c_X6_join (n := n) hN3 hn (by omega) j2) rfl h_paths rfl rfl (by decide) (by decide) rfl (Nat.le_of_ble_eq_true rfl) ?_
        have hst : sJoin (sJoin (sN1 (sPrep S n m) n m) n m (fe1 (sPrep S n m) m)) n m (fe2 (sPrep S n m) m) = sPrep S n (m + 1) := by show _ = sN2 (sPrep S n m) n m; unfold sN2; rw [if_neg (by rw [q2]; decide), if_pos q3]
        refine rn_eq (congrArg (fun x => (wd x E, sl)) hst) (rn_iinc dX6_prepare_125 rfl (nI_1 _) (by decide) rfl (rn_goto (tgt := 10) dX6_prepare_128 rfl (rn_subg rfl ih)))
    · rw [bI_n] at q2
      replace q2 : stB (sPrep S n m) m = true := q2
      refine rn_aload_n dX6_prepare_76 rfl ?_
      refine rn_getfield dX6_prepare_77 fo_X6_9 h_paths rfl ?_
      refine rn_iload_n dX6_prepare_80 rfl ?_
      refine rn_iconst (v := 1) dX6_prepare_81 rfl ?_
      refine rn_iload_n dX6_prepare_82 rfl ?_
      refine rn_ishl dX6_prepare_83 ?_
      refine rn_pA dX6_prepare_84 (by decide) rfl (fun _ => rfl) (vp_in_nI (by omega) (by decide)) ?_
      rw [nI_clamp (by omega)]
      refine rn_aload_n dX6_prepare_85 rfl ?_
      refine rn_getfield dX6_prepare_86 fo_X6_18 h_paths rfl ?_
      refine rn_iload_n dX6_prepare_89 rfl ?_
      refine rn_bipush (v := nI 16) dX6_prepare_90 (by decide) ?_
      refine rn_imul dX6_prepare_92 ?_
      refine rn_topi (nI_mul _ _) ?_
      refine rn_iload_n dX6_prepare_93 rfl ?_
      refine rn_iadd dX6_prepare_94 ?_
      refine rn_topi (nI_add _ _) ?_
      refine rn_iconst (v := 1) dX6_prepare_95 rfl ?_
      refine rn_pA dX6_prepare_96 (by decide) rfl (fun _ => rfl) (vp_in_nI (by omega) (by decide)) ?_
      rw [nI_clamp (by omega)]
      refine rn_goto (tgt := 125) dX6_prepare_97 rfl ?_
      have hst : pA (pA (sN1 (sPrep S n m) n m) 39 (upd ((sN1 (sPrep S n m) n m).2.1 39) m (1 <<< (nI m &&& 31)))) 41 (upd ((sN1 (sPrep S n m) n m).2.1 41) (m * 16 + m) 1) = sPrep S n (m + 1) := by show _ = sN2 (sPrep S n m) n m; unfold sN2; rw [if_pos q2]
      refine rn_eq (congrArg (fun x => (wd x E, sl)) hst) (rn_iinc dX6_prepare_125 rfl (nI_1 _) (by decide) rfl (rn_goto (tgt := 10) dX6_prepare_128 rfl (rn_subg rfl ih)))
set_option maxRecDepth 20000 in
theorem c_X6_prepare {n nr nc nk : Nat} (hT : Told S n nr nc nk) : Cn l D ad tc L xs mX6_prepare 3 73 [.ref 39] (wd S E, sl) none (wd (sPaths S n nr) E, sl) := by
  refine cn_of (lv0 := [(0, .ref 39)]) (by decide +kernel) rfl (fun _ => by simp [lg_sl, j_v, Value.category]) (fun _ => rfl) ?_
  refine rn_aload_n dX6_prepare_0 rfl ?_
  refine rn_getfield dX6_prepare_1 fo_X6_28 h_paths rfl ?_
  refine rn_if_eq (tgt := 8) dX6_prepare_4 rfl (fun q1 => ?_) (fun q1 => ?_)
  · refine rn_iconst (v := 0) dX6_prepare_8 rfl ?_
    refine rn_istore_n dX6_prepare_9 (by decide) rfl ?_
    rw [show sPaths S n nr = pI (sChks (sPrep S n n) n nr n) 38 5 1 by unfold sPaths; rw [if_pos q1]]
    exact rn_subg rfl (lp_X6_prepN hT n 0 (by omega))
  · exact rn_eq (by unfold sPaths; rw [if_neg q1]) (rn_ret dX6_prepare_7 trivial rfl)
end P4
end
section
/-! Delays: what nodes bear, and what they take; x = 43 or 46: whose -/
/-- 1 / 128 of what the load of q quarters makes a node of size 1 take -/
def ub (q : Nat) : Int := if q ≤ 16 then 128 + 8 * q else if q ≤ 32 then 64 + 12 * q else if q ≤ 64 then 64 + 12 * q else 16 * q - 192
theorem ub_r {q : Nat} (h : q ≤ 1000) : 128 ≤ ub q ∧ ub q ≤ 16000 := by unfold ub; (repeat' split) <;> omega
theorem ub_4 (q : Nat) : ∃ k : Int, ub q = 4 * k := by
  unfold ub
  (repeat' split)
  · exact ⟨32 + 2 * q, by omega⟩
  · exact ⟨16 + 3 * q, by omega⟩
  · exact ⟨16 + 3 * q, by omega⟩
  · exact ⟨4 * q - 48, by omega⟩
/-- 1 / 128 of the rise of the node i under q quarters -/
def rho (S : jS) (i q : Nat) : Int := if kd S i = 0 ∨ kd S i = 8 then 0 else ub q / (sI S (i + 13) 5).toInt + (if gaB S i = true then 0 else 256)
theorem rho_r {S : jS} {i q : Nat} (h : q ≤ 1000) (hz : sI S (i + 13) 5 = 1 ∨ sI S (i + 13) 5 = 2 ∨ sI S (i + 13) 5 = 4) : 0 ≤ rho S i q ∧ rho S i q ≤ 17000 := by
  have h1 := ub_r h
  unfold rho
  split
  · omega
  · rcases hz with hz | hz | hz <;> rw [hz]
    · rw [show (1 : Int32).toInt = 1 by decide]; split <;> omega
    · rw [show (2 : Int32).toInt = 2 by decide]; split <;> omega
    · rw [show (4 : Int32).toInt = 4 by decide]; split <;> omega
section D1
variable {l : Launch} {D : va_G} {ad : Nat → Nat} {tc : Nat → ClassId} {L : Nat} {xs : Nat → Int32} {M : j_M} {d lo pc : Nat} {lv : j_L} {st : List Value} {h h' : j_H} {r : Option Value}
theorem rn_ddivv {a : Int} {x : Int32} (hd : decode M.2.1 pc = .ok (.ddiv, 1)) (ha : dB (a * x.toInt)) (hx : 0 < x.toInt) (k : Rn l D ad tc L xs M d lo (pc + 1) lv (.double (dv a) :: st) h r h') : Rn l D ad tc L xs M d lo pc lv (.double (FP.i2d x) :: .double (dv (a * x.toInt)) :: st) h r h' :=
  rn_ddiv hd (by rw [dv_div ha hx]; exact dv_n _) (rn_topd (dv_div ha hx) k)
end D1
section D2
variable {l : Launch} {D : va_G} {ad : Nat → Nat} {tc : Nat → ClassId} {L : Nat} {xs : Nat → Int32} {S : jS} {E : List j_C} {sl : Nat}
set_option maxRecDepth 20000 in
theorem c_X4_unsized {q : Nat} (hq : q ≤ 1000) : Cn l D ad tc L xs mX4_unsized 0 0 [.double (dv (1024 * q))] (wd S E, sl) (some (.double (dv (32 * ub q)))) (wd S E, sl) := by
  refine cn_of (lv0 := [(0, .double (dv (1024 * q)))]) (by decide +kernel) rfl (fun _ => by simp [lg_sl, j_v, Value.category]) (fun _ => rfl) ?_
  refine rn_dload_n dX4_unsized_0 rfl ?_
  refine rn_dcon (n := 0) (m := 16384) dX4_unsized_1 wd_189 (by decide +kernel) ?_
  refine rn_dcmpv dX4_unsized_4 (dB_of (by omega) (by omega)) (dB_of (by omega) (by omega)) ?_
  refine rn_if_gt (tgt := 16) dX4_unsized_5 rfl (fun q1 => ?_) (fun q1 => ?_)
  · rw [cmpI_gt] at q1
    refine rn_dload_n dX4_unsized_16 rfl ?_
    refine rn_dcon (n := 0) (m := 32768) dX4_unsized_17 wd_191 (by decide +kernel) ?_
    refine rn_dcmpv dX4_unsized_20 (dB_of (by omega) (by omega)) (dB_of (by omega) (by omega)) ?_
    refine rn_if_gt (tgt := 38) dX4_unsized_21 rfl (fun q2 => ?_) (fun q2 => ?_)
    · rw [cmpI_gt] at q2
      refine rn_dload_n dX4_unsized_38 rfl ?_
      refine rn_dcon (n := 0) (m := 65536) dX4_unsized_39 wd_193 (by decide +kernel) ?_
      refine rn_dcmpv dX4_unsized_42 (dB_of (by omega) (by omega)) (dB_of (by omega) (by omega)) ?_
      refine rn_if_gt (tgt := 60) dX4_unsized_43 rfl (fun q3 => ?_) (fun q3 => ?_)
      · rw [cmpI_gt] at q3
        refine rn_dcon (n := 0) (m := 26624) dX4_unsized_60 wd_195 (by decide +kernel) ?_
        refine rn_dload_n dX4_unsized_63 rfl ?_
        refine rn_dcon (n := 0) (m := 65536) dX4_unsized_64 wd_193 (by decide +kernel) ?_
        refine rn_dsubv dX4_unsized_67 (dB_of (by omega) (by omega)) (dB_of (by omega) (by omega)) ?_
        refine rn_dcon (n := 0) (m := 2048) dX4_unsized_68 wd_196 (by decide +kernel) ?_
        refine rn_dmulv (c := 512 * q - 32768) dX4_unsized_71 (dB_of (by omega) (by omega)) (dB_of (by omega) (by omega)) (by omega) (by omega) (by omega) ?_
        refine rn_daddv dX4_unsized_72 (dB_of (by omega) (by omega)) (dB_of (by omega) (by omega)) ?_
        exact rn_ret dX4_unsized_73 trivial (by show [Value.double (dv _)] = [Value.double (dv _)]; congr 3; unfold ub; (repeat' split) <;> omega)
      · rw [cmpI_gt] at q3
        refine rn_dcon (n := 0) (m := 14336) dX4_unsized_46 wd_194 (by decide +kernel) ?_
        refine rn_dload_n dX4_unsized_49 rfl ?_
        refine rn_dcon (n := 0) (m := 32768) dX4_unsized_50 wd_191 (by decide +kernel) ?_
        refine rn_dsubv dX4_unsized_53 (dB_of (by omega) (by omega)) (dB_of (by omega) (by omega)) ?_
        refine rn_dcon (n := 0) (m := 1536) dX4_unsized_54 wd_192 (by decide +kernel) ?_
        refine rn_dmulv (c := 384 * q - 12288) dX4_unsized_57 (dB_of (by omega) (by omega)) (dB_of (by omega) (by omega)) (by omega) (by omega) (by omega) ?_
        refine rn_daddv dX4_unsized_58 (dB_of (by omega) (by omega)) (dB_of (by omega) (by omega)) ?_
        exact rn_ret dX4_unsized_59 trivial (by show [Value.double (dv _)] = [Value.double (dv _)]; congr 3; unfold ub; (repeat' split) <;> omega)
    · rw [cmpI_gt] at q2
      refine rn_dcon (n := 0) (m := 8192) dX4_unsized_24 wd_188 (by decide +kernel) ?_
      refine rn_dload_n dX4_unsized_27 rfl ?_
      refine rn_dcon (n := 0) (m := 16384) dX4_unsized_28 wd_189 (by decide +kernel) ?_
      refine rn_dsubv dX4_unsized_31 (dB_of (by omega) (by omega)) (dB_of (by omega) (by omega)) ?_
      refine rn_dcon (n := 0) (m := 1536) dX4_unsized_32 wd_192 (by decide +kernel) ?_
      refine rn_dmulv (c := 384 * q - 6144) dX4_unsized_35 (dB_of (by omega) (by omega)) (dB_of (by omega) (by omega)) (by omega) (by omega) (by omega) ?_
      refine rn_daddv dX4_unsized_36 (dB_of (by omega) (by omega)) (dB_of (by omega) (by omega)) ?_
      exact rn_ret dX4_unsized_37 trivial (by show [Value.double (dv _)] = [Value.double (dv _)]; congr 3; unfold ub; (repeat' split) <;> omega)
  · rw [cmpI_gt] at q1
    refine rn_dcon1 dX4_unsized_8 ?_
    refine rn_dload_n dX4_unsized_9 rfl ?_
    refine rn_dcon (n := 0) (m := 1024) dX4_unsized_10 wd_190 (by decide +kernel) ?_
    refine rn_dmulv (c := 256 * q) dX4_unsized_13 (dB_of (by omega) (by omega)) (dB_of (by omega) (by omega)) (by omega) (by omega) (by omega) ?_
    refine rn_daddv dX4_unsized_14 (dB_of (by omega) (by omega)) (dB_of (by omega) (by omega)) ?_
    exact rn_ret dX4_unsized_15 trivial (by show [Value.double (dv _)] = [Value.double (dv _)]; congr 3; unfold ub; (repeat' split) <;> omega)
set_option maxRecDepth 20000 in
theorem c_X4_riseOf {i q : Nat} (hi : i < 16) (hq : q ≤ 1000) (hz : sI S (i + 13) 5 = 1 ∨ sI S (i + 13) 5 = 2 ∨ sI S (i + 13) 5 = 4) : Cn l D ad tc L xs mX4_riseOf 1 21 [.ref (i + 14), .double (dv (1024 * q))] (wd S E, sl) (some (.double (dv (32 * rho S i q)))) (wd S E, sl) := by
  refine cn_of (lv0 := [(0, .ref (i + 14)), (1, .double (dv (1024 * q)))]) (by decide +kernel) rfl (fun _ => by simp [lg_sl, j_v, Value.category]) (fun _ => rfl) ?_
  have hu := ub_r hq
  obtain ⟨k4, hk4⟩ := ub_4 q
  obtain ⟨z, hz0, hz1, hz2, hzd⟩ : ∃ z : Int32, sI S (i + 13) 5 = z ∧ 0 < z.toInt ∧ z.toInt ≤ 4 ∧ 32 * ub q = 32 * (ub q / z.toInt) * z.toInt := by
    rcases hz with hz | hz | hz <;> refine ⟨_, hz, by decide, by decide, ?_⟩
    · rw [show (1 : Int32).toInt = 1 by decide]; omega
    · rw [show (2 : Int32).toInt = 2 by decide]; omega
    · rw [show (4 : Int32).toInt = 4 by decide]; omega
  have hdb : dB (32 * (ub q / z.toInt) * z.toInt) := by rw [← hzd]; exact dB_of (by omega) (by omega)
  have hq0 : 0 ≤ ub q / z.toInt := Int.ediv_nonneg (by omega) (by omega)
  have hq1 : ub q / z.toInt ≤ ub q := Int.ediv_le_self _ (by omega)
  refine rn_aload_n dX4_riseOf_0 rfl ?_
  refine rn_getfield dX4_riseOf_1 fo_X4_46 (h_node (by omega)) rfl ?_
  refine rn_if_eq (tgt := 26) dX4_riseOf_4 rfl (fun q1 => ?_) (fun q1 => ?_)
  · refine rn_dcon0 dX4_riseOf_26 ?_
    exact rn_ret dX4_riseOf_27 trivial (by rw [show rho S i q = 0 by unfold rho; rw [if_pos (show kd S i = 0 ∨ kd S i = 8 from Or.inl q1)], Int.mul_zero]; rfl)
  · refine rn_aload_n dX4_riseOf_7 rfl ?_
    refine rn_getfield dX4_riseOf_8 fo_X4_46 (h_node (by omega)) rfl ?_
    refine rn_bipush (v := 8) dX4_riseOf_11 rfl ?_
    refine rn_icmp_eq (tgt := 26) dX4_riseOf_13 rfl (fun q2 => ?_) (fun q2 => ?_)
    · refine rn_dcon0 dX4_riseOf_26 ?_
      exact rn_ret dX4_riseOf_27 trivial (by rw [show rho S i q = 0 by unfold rho; rw [if_pos (show kd S i = 0 ∨ kd S i = 8 from Or.inr q2)], Int.mul_zero]; rfl)
    · refine rn_aload_n dX4_riseOf_16 rfl ?_
      refine rn_getfield dX4_riseOf_17 fo_X4_50 (h_node (by omega)) rfl ?_
      refine rn_callSN dX4_riseOf_20 csn_X4_71 c_X9_isSize rfl (by decide) (by decide) rfl (Nat.le_of_ble_eq_true rfl) ?_
      refine rn_if_ne (tgt := 28) dX4_riseOf_23 rfl (fun q3 => ?_) (fun q3 => ?_)
      · refine rn_dload_n dX4_riseOf_28 rfl ?_
        refine rn_callS dX4_riseOf_29 cs_X4_74 (c_X4_unsized hq) rfl (by decide) (by decide) rfl (Nat.le_of_ble_eq_true rfl) ?_
        refine rn_aload_n dX4_riseOf_32 rfl ?_
        rw [hzd]
        refine rn_getfield dX4_riseOf_33 fo_X4_50 (h_node (by omega)) rfl ?_
        refine rn_i2d dX4_riseOf_36 ?_
        rw [hz0]
        refine rn_ddivv dX4_riseOf_37 hdb hz1 ?_
        refine rn_dstore_n dX4_riseOf_38 (by decide) rfl ?_
        refine rn_aload_n dX4_riseOf_39 rfl ?_
        refine rn_callV dX4_riseOf_40 cv_X4_78 (c_X5_isGate hi) rfl (h_node (by omega)) rfl rfl (by decide) (by decide) rfl (Nat.le_of_ble_eq_true rfl) ?_
        refine rn_if_eq (tgt := 50) dX4_riseOf_43 rfl (fun q4 => ?_) (fun q4 => ?_)
        · refine rn_dload_n dX4_riseOf_50 rfl ?_
          refine rn_dcon (n := 0) (m := 8192) dX4_riseOf_51 wd_188 (by decide +kernel) ?_
          refine rn_daddv dX4_riseOf_54 (dB_of (by omega) (by omega)) (dB_of (by omega) (by omega)) ?_
          exact rn_ret dX4_riseOf_55 trivial (by rw [bI_0] at q4; replace q4 : gaB S i = false := q4; show [Value.double (dv _)] = [Value.double (dv _)]; congr 3; unfold rho; rw [if_neg (fun z => z.elim q1 q2), hz0, if_neg (by rw [q4]; decide)]; omega)
        · refine rn_dload_n dX4_riseOf_46 rfl ?_
          refine rn_goto (tgt := 55) dX4_riseOf_47 rfl ?_
          exact rn_ret dX4_riseOf_55 trivial (by rw [bI_n] at q4; replace q4 : gaB S i = true := q4; show [Value.double (dv _)] = [Value.double (dv _)]; congr 3; unfold rho; rw [if_neg (fun z => z.elim q1 q2), hz0, if_pos q4]; omega)
      · rw [bI_0, decide_eq_false_iff_not] at q3
        exact absurd hz q3
end D2
end
section
/-! Delays: reckon and prepare -/
def Tw (S : jS) (w : Nat → Nat) : Prop := ∀ i, i < 16 → w i ≤ 80 ∧ sF S (i + 13) 6 = fv (w i)
/-- what a node adds to its feeds' loads, in quarters -/
def own (S : jS) (k : Nat) : Nat := if kd S k = 8 then 8 else 2 * (sI S (k + 13) 5).toInt.toNat
def qLd (S : jS) (w : Nat → Nat) : Nat → Nat → Nat
  | 0, i => w i
  | k + 1, i => qLd S w k i + (if fe1 S k = nI i then own S k else 0) + (if fe2 S k = nI i then own S k else 0)
theorem own_r {S : jS} {k : Nat} (hz : sI S (k + 13) 5 = 1 ∨ sI S (k + 13) 5 = 2 ∨ sI S (k + 13) 5 = 4) : own S k ≤ 8 := by
  unfold own
  split
  · omega
  · rcases hz with hz | hz | hz <;> rw [hz] <;> decide
theorem qLd_r {S : jS} {w : Nat → Nat} (hz : ∀ i, i < 16 → sI S (i + 13) 5 = 1 ∨ sI S (i + 13) 5 = 2 ∨ sI S (i + 13) 5 = 4) (hw : ∀ i, i < 16 → w i ≤ 80) : ∀ k, k ≤ 16 → ∀ i, i < 16 → qLd S w k i ≤ 80 + 16 * k
  | 0, _, i, hi => hw i hi
  | k + 1, hk, i, hi => by
    have h1 := qLd_r hz hw k (by omega) i hi
    have h2 := own_r (hz k (by omega))
    unfold qLd
    split <;> split <;> omega
def LF (n : Nat) (F0 : Nat → UInt32) (q : Nat → Nat) : Nat → UInt32 := fun i => if i < n then fv (q i) else F0 i
def RD (S : jS) (q : Nat → Nat) (D0 : Nat → UInt64) (k : Nat) : Nat → UInt64 := fun i => if i < k then dv (32 * rho S i (q i)) else D0 i
theorem RD_s (S : jS) (q : Nat → Nat) (D0 : Nat → UInt64) (k : Nat) : vf_upd (RD S q D0 k) k (dv (32 * rho S k (q k))) = RD S q D0 (k + 1) := by
  funext i
  unfold vf_upd RD
  by_cases h : i = k
  · subst h
    rw [if_pos rfl, if_pos (by omega)]
  · rw [if_neg h]
    by_cases h2 : i < k
    · rw [if_pos h2, if_pos (by omega)]
    · rw [if_neg h2, if_neg (by omega)]
theorem pF_pF {S : jS} {k : Nat} {g1 g2 : Nat → UInt32} : pF (pF S k g1) k g2 = pF S k g2 := by
  unfold pF
  congr 4
  funext a
  by_cases h : a = k <;> simp [up1, h]
theorem pF_id {S : jS} {k : Nat} {g : Nat → UInt32} (h : g = S.2.2.2.1 k) : pF S k g = S := by
  subst h
  obtain ⟨a, b, c, d, e⟩ := S
  unfold pF
  congr 4
  funext x
  by_cases h : x = k <;> simp [up1, h]
theorem pD_pD {S : jS} {k : Nat} {g1 g2 : Nat → UInt64} : pD (pD S k g1) k g2 = pD S k g2 := by
  unfold pD
  congr 3
  funext a
  by_cases h : a = k <;> simp [up1, h]
theorem pD_id {S : jS} {k : Nat} {g : Nat → UInt64} (h : g = S.2.2.1 k) : pD S k g = S := by
  subst h
  obtain ⟨a, b, c, d⟩ := S
  unfold pD
  congr 3
  funext x
  by_cases h : x = k <;> simp [up1, h]
theorem pF_eq {S : jS} {k : Nat} {g : Nat → UInt32} : (pF S k g).2.2.2.1 k = g := if_pos rfl
theorem pD_eq {S : jS} {k : Nat} {g : Nat → UInt64} : (pD S k g).2.2.1 k = g := if_pos rfl
theorem LF_at {n i : Nat} {F0 : Nat → UInt32} {q : Nat → Nat} (h : i < n) : LF n F0 q i = fv (q i) := if_pos h
theorem nI_inj16 {a b : Nat} (ha : a < 16) (hb : b < 16) (h : nI a = nI b) : a = b := (nI_eq (by omega) (by omega)).mp h
section D3
variable {l : Launch} {D : va_G} {ad : Nat → Nat} {tc : Nat → ClassId} {L : Nat} {xs : Nat → Int32} {S : jS} {E : List j_C} {sl x : Nat}
set_option maxRecDepth 20000 in
theorem c_X4_burden {n o : Nat} {v : Int32} {q : Nat → Nat} {F0 : Nat → UInt32} (HX : x = 43 ∨ x = 46) (hN : sI S 1 6 = nI n) (hn : n ≤ 16) (hq : ∀ i, i < n → q i ≤ 900) (ho : o ≤ 8) : Cn l D ad tc L xs mX4_burden 1 21 [.ref (x + 1), .int v, .float (fv o)] (wd (pF S (x + 1) (LF n F0 q)) E, sl) none (wd (pF S (x + 1) (LF n F0 (fun i => q i + if v = nI i then o else 0))) E, sl) := by
  refine cn_of (lv0 := [(0, .ref (x + 1)), (1, .int v), (2, .float (fv o))]) (by decide +kernel) rfl (fun _ => by simp [lg_sl, j_v, Value.category]) (fun _ => rfl) ?_
  refine rn_aload_n dX4_burden_0 rfl ?_
  refine rn_getfield dX4_burden_1 fo_X4_19 (h_del HX) rfl ?_
  refine rn_iload_n dX4_burden_4 rfl ?_
  refine rn_callV dX4_burden_5 cv_X4_67 c_X1_hasNode rfl h_chip rfl rfl (by decide) (by decide) rfl (Nat.le_of_ble_eq_true rfl) ?_
  refine rn_if_eq (tgt := 21) dX4_burden_8 rfl (fun q1 => ?_) (fun q1 => ?_)
  · rw [bI_0, decide_eq_false_iff_not] at q1
    replace q1 : ¬ (0 ≤ v ∧ v < sI S 1 6) := q1
    rw [hN] at q1
    refine rn_eq (congrArg (fun z => (wd (pF S (x + 1) z) E, sl)) (funext fun i => ?_)) (rn_ret dX4_burden_21 trivial rfl)
    unfold LF
    by_cases hi : i < n
    · rw [if_pos hi, if_pos hi]
      show fv ((q i : Nat) : Int) = fv (((q i + if v = nI i then o else 0) : Nat) : Int)
      rw [if_neg (fun z => q1 (by subst z; exact ⟨Int32.not_lt.mp (nI_pos (by omega)), nI_lt hi (by omega)⟩)), Nat.add_zero]
    · rw [if_neg hi, if_neg hi]
  · rw [bI_n, decide_eq_true_eq] at q1
    replace q1 : 0 ≤ v ∧ v < sI S 1 6 := q1
    rw [hN] at q1
    obtain ⟨f, hf, rfl⟩ := nI_below q1.1 q1.2 (by omega)
    have hqf := hq f hf
    refine rn_aload_n dX4_burden_11 rfl ?_
    refine rn_getfield dX4_burden_12 fo_X4_9 (h_del HX) rfl ?_
    refine rn_iload_n dX4_burden_15 rfl ?_
    refine rn_dup2 dX4_burden_16 rfl rfl ?_
    refine rn_faload dX4_burden_17 (h_loads HX) rfl (vp_in_nI (by omega) (by decide)) ?_
    rw [nI_clamp (by omega)]
    rw [show sF (pF S (x + 1) (LF n F0 q)) (x + 1) f = fv (q f) by rw [show sF (pF S (x + 1) (LF n F0 q)) (x + 1) = LF n F0 q from pF_eq]; exact LF_at hf]
    refine rn_fload_n dX4_burden_18 rfl ?_
    refine rn_fadd dX4_burden_19 (by rw [fv_add (by unfold fB; omega) (by unfold fB; omega)]; exact fv_n _) ?_
    refine rn_topf (fv_add (by unfold fB; omega) (by unfold fB; omega)) ?_
    refine rn_pF (a := x + 1) (n := 16) dX4_burden_20 (by omega) (by rcases HX with rfl | rfl <;> rfl) (by rcases HX with rfl | rfl <;> exact fun _ => rfl) (vp_in_nI (by omega) (by decide)) ?_
    rw [nI_clamp (by omega)]
    refine rn_eq (congrArg (fun z => (wd z E, sl)) ?_) (rn_ret dX4_burden_21 trivial rfl)
    rw [pF_pF, show (pF S (x + 1) (LF n F0 q)).2.2.2.1 (x + 1) = LF n F0 q from pF_eq]
    congr 1
    funext i
    unfold vf_upd LF
    by_cases hi : i = f
    · subst hi
      rw [if_pos rfl, if_pos hf]
      show fv _ = fv (((q i + if nI i = nI i then o else 0) : Nat) : Int)
      rw [if_pos rfl, Int.natCast_add]
    · rw [if_neg hi]
      by_cases h2 : i < n
      · rw [if_pos h2, if_pos h2]
        show fv ((q i : Nat) : Int) = fv (((q i + if nI f = nI i then o else 0) : Nat) : Int)
        rw [if_neg (fun z => hi ((nI_eq (by omega) (by omega)).mp z.symm)), Nat.add_zero]
      · rw [if_neg h2, if_neg h2]
set_option maxRecDepth 20000 in
theorem lp_X4_reckon3 {F0 : Nat → UInt32} {D0 : Nat → UInt64} {n nr nc nk : Nat} {w : Nat → Nat} (HX : x = 43 ∨ x = 46) (hT : Told S n nr nc nk) (hw : Tw S w) : ∀ j k : Nat, k + j = n → Rn l D ad tc L xs mX4_reckon 2 45 108 [(1, .int (nI k)), (0, .ref (x + 1))] [] (wd (pD (pF S (x + 1) (LF n F0 (qLd S w n))) (x + 2) (RD S (qLd S w n) D0 k)) E, sl) none (wd (pD (pF S (x + 1) (LF n F0 (qLd S w n))) (x + 2) (RD S (qLd S w n) D0 n)) E, sl) := by
  obtain ⟨⟨hN, hn⟩, -, -, -, hv, hnd, hsz, -, -, -⟩ := id hT
  intro j
  induction j with
  | zero =>
    intro k hk
    have hk' : n = k := by omega
    subst hk'
    have hN1 := hN
    refine rn_iload_n dX4_reckon_108 rfl ?_
    refine rn_aload_n dX4_reckon_109 rfl ?_
    refine rn_getfield dX4_reckon_110 fo_X4_19 (h_del HX) rfl ?_
    refine rn_getfield dX4_reckon_113 fo_X4_30 h_chip rfl ?_
    refine rn_topi hN1 ?_
    refine rn_icmp_ge (tgt := 150) dX4_reckon_116 rfl (fun _ => ?_) (fun q1 => absurd (by exact Int32.le_refl _) q1)
    exact rn_ret dX4_reckon_150 trivial rfl
  | succ j ih =>
    intro k hk
    have hN1 := hN
    have ih := ih (k + 1) (by omega)
    have hqk := qLd_r (fun i hi => (hsz i hi).1) (fun i hi => (hw i hi).1) n hn k (by omega)
    refine rn_iload_n dX4_reckon_108 rfl ?_
    refine rn_aload_n dX4_reckon_109 rfl ?_
    refine rn_getfield dX4_reckon_110 fo_X4_19 (h_del HX) rfl ?_
    refine rn_getfield dX4_reckon_113 fo_X4_30 h_chip rfl ?_
    refine rn_topi hN1 ?_
    refine rn_icmp_ge (tgt := 150) dX4_reckon_116 rfl (fun q1 => absurd q1 (by rw [Int32.le_iff_toInt_le, nI_toInt (by omega), nI_toInt (by omega)] at q1; omega)) (fun _ => ?_)
    refine rn_aload_n dX4_reckon_119 rfl ?_
    refine rn_getfield dX4_reckon_120 fo_X4_15 (h_del HX) rfl ?_
    refine rn_iload_n dX4_reckon_123 rfl ?_
    refine rn_aload_n dX4_reckon_124 rfl ?_
    refine rn_getfield dX4_reckon_125 fo_X4_19 (h_del HX) rfl ?_
    refine rn_getfield dX4_reckon_128 fo_X4_36 h_chip rfl ?_
    refine rn_iload_n dX4_reckon_131 rfl ?_
    refine rn_aaload dX4_reckon_132 h_nodes rfl (vp_in_nI (by omega) (by decide)) (refs_at rfl (by omega) (by decide)) ?_
    refine rn_aload_n dX4_reckon_133 rfl ?_
    refine rn_getfield dX4_reckon_134 fo_X4_9 (h_del HX) rfl ?_
    refine rn_iload_n dX4_reckon_137 rfl ?_
    refine rn_faload dX4_reckon_138 (h_loads HX) rfl (vp_in_nI (by omega) (by decide)) ?_
    rw [nI_clamp (by omega)]
    rw [show sF (pD (pF S (x + 1) (LF n F0 (qLd S w n))) (x + 2) (RD S (qLd S w n) D0 k)) (x + 1) k = fv (qLd S w n k) by rw [show sF (pD (pF S (x + 1) (LF n F0 (qLd S w n))) (x + 2) (RD S (qLd S w n) D0 k)) (x + 1) = LF n F0 (qLd S w n) from pF_eq]; exact LF_at (by omega)]
    refine rn_f2d dX4_reckon_139 (by rw [f2d_dv (by unfold fB; omega)]; exact dv_n _) ?_
    refine rn_topd (y := dv (1024 * (qLd S w n k : Nat))) (by rw [f2d_dv (by unfold fB; omega), Int.mul_comm]) ?_
    refine rn_callS dX4_reckon_140 cs_X4_63 (c_X4_riseOf (by omega) (by omega) (hsz k (by omega)).1) rfl (by decide) (by decide) rfl (Nat.le_of_ble_eq_true rfl) ?_
    refine rn_pD (a := x + 2) (n := 16) dX4_reckon_143 (by omega) (by rcases HX with rfl | rfl <;> rfl) (by rcases HX with rfl | rfl <;> exact fun _ => rfl) (vp_in_nI (by omega) (by decide)) ?_
    rw [nI_clamp (by omega)]
    refine rn_eq (h2 := (wd (pD (pF S (x + 1) (LF n F0 (qLd S w n))) (x + 2) (RD S (qLd S w n) D0 (k + 1))) E, sl)) (congrArg (fun z => (wd z E, sl)) (by rw [pD_pD, show (pD (pF S (x + 1) (LF n F0 (qLd S w n))) (x + 2) (RD S (qLd S w n) D0 k)).2.2.1 (x + 2) = RD S (qLd S w n) D0 k from pD_eq]; exact congrArg _ (RD_s S _ D0 k))) ?_
    refine rn_iinc dX4_reckon_144 rfl (nI_1 _) (by decide) rfl ?_
    refine rn_goto (tgt := 108) dX4_reckon_147 rfl ?_
    exact rn_subg rfl ih
def sDel (S : jS) (w : Nat → Nat) (n x : Nat) : jS := pD (pF S (x + 1) (LF n (sF S (x + 1)) (qLd S w n))) (x + 2) (RD S (qLd S w n) (sD S (x + 2)) n)
theorem LF_s (k : Nat) (F0 : Nat → UInt32) (w : Nat → Nat) : vf_upd (LF k F0 w) k (fv (w k)) = LF (k + 1) F0 w := by
  funext i
  unfold vf_upd LF
  by_cases h : i = k
  · subst h
    rw [if_pos rfl, if_pos (by omega)]
  · rw [if_neg h]
    by_cases h2 : i < k
    · rw [if_pos h2, if_pos (by omega)]
    · rw [if_neg h2, if_neg (by omega)]
theorem LF_0 (F0 : Nat → UInt32) (w : Nat → Nat) : LF 0 F0 w = F0 := by
  funext i
  simp [LF]
theorem RD_0 (S : jS) (q : Nat → Nat) (D0 : Nat → UInt64) : RD S q D0 0 = D0 := by
  funext i
  simp [RD]
set_option maxRecDepth 20000 in
theorem lp_X4_reckon2 {n nr nc nk : Nat} {w : Nat → Nat} (HX : x = 43 ∨ x = 46) (hT : Told S n nr nc nk) (hw : Tw S w) : ∀ j k : Nat, k + j = n → Rn l D ad tc L xs mX4_reckon 2 45 39 [(1, .int (nI k)), (0, .ref (x + 1))] [] (wd (pF S (x + 1) (LF n (sF S (x + 1)) (qLd S w k))) E, sl) none (wd (sDel S w n x) E, sl) := by
  obtain ⟨⟨hN, hn⟩, -, -, -, hv, hnd, hsz, -, -, -⟩ := id hT
  intro j
  induction j with
  | zero =>
    intro k hk
    have hk' : n = k := by omega
    subst hk'
    have hN1 := hN
    refine rn_iload_n dX4_reckon_39 rfl ?_
    refine rn_aload_n dX4_reckon_40 rfl ?_
    refine rn_getfield dX4_reckon_41 fo_X4_19 (h_del HX) rfl ?_
    refine rn_getfield dX4_reckon_44 fo_X4_30 h_chip rfl ?_
    refine rn_topi hN1 ?_
    refine rn_icmp_ge (tgt := 106) dX4_reckon_47 rfl (fun _ => ?_) (fun q1 => absurd (by exact Int32.le_refl _) q1)
    refine rn_iconst (v := 0) dX4_reckon_106 rfl ?_
    refine rn_istore_n dX4_reckon_107 (by decide) rfl ?_
    refine rn_eq (h2 := (wd (pD (pF S (x + 1) (LF n (sF S (x + 1)) (qLd S w n))) (x + 2) (RD S (qLd S w n) (sD S (x + 2)) 0)) E, sl)) (congrArg (fun z => (wd z E, sl)) (by rw [RD_0]; exact (pD_id rfl).symm)) ?_
    exact rn_subg rfl (lp_X4_reckon3 HX hT hw n 0 (by omega))
  | succ j ih =>
    intro k hk
    have hN1 := hN
    have ih := ih (k + 1) (by omega)
    have hzk := (hsz k (by omega)).1
    have hown8 := own_r hzk
    have hown2 : ¬ kd S k = 8 → FP.fmul 1056964608 (FP.i2f (sI S (k + 13) 5)) = fv (own S k) := fun q => by
      unfold own
      rw [if_neg q]
      rcases hzk with hz | hz | hz <;> rw [hz]
      · rw [fv_halves 1 (by unfold fB; decide) (by decide)]; rfl
      · rw [fv_halves 2 (by unfold fB; decide) (by decide)]; rfl
      · rw [fv_halves 4 (by unfold fB; decide) (by decide)]; rfl
    refine rn_iload_n dX4_reckon_39 rfl ?_
    refine rn_aload_n dX4_reckon_40 rfl ?_
    refine rn_getfield dX4_reckon_41 fo_X4_19 (h_del HX) rfl ?_
    refine rn_getfield dX4_reckon_44 fo_X4_30 h_chip rfl ?_
    refine rn_topi hN1 ?_
    refine rn_icmp_ge (tgt := 106) dX4_reckon_47 rfl (fun q1 => absurd q1 (by rw [Int32.le_iff_toInt_le, nI_toInt (by omega), nI_toInt (by omega)] at q1; omega)) (fun _ => ?_)
    refine rn_aload_n dX4_reckon_50 rfl ?_
    refine rn_getfield dX4_reckon_51 fo_X4_19 (h_del HX) rfl ?_
    refine rn_getfield dX4_reckon_54 fo_X4_36 h_chip rfl ?_
    refine rn_iload_n dX4_reckon_57 rfl ?_
    refine rn_aaload dX4_reckon_58 h_nodes rfl (vp_in_nI (by omega) (by decide)) (refs_at rfl (by omega) (by decide)) ?_
    refine rn_astore_n dX4_reckon_59 (by decide) rfl ?_
    refine rn_aload_n dX4_reckon_60 rfl ?_
    refine rn_getfield dX4_reckon_61 fo_X4_46 (h_node (by omega)) rfl ?_
    refine rn_bipush (v := 8) dX4_reckon_64 rfl ?_
    refine rn_icmp_ne (tgt := 73) dX4_reckon_66 rfl (fun q2 => ?_) (fun q2 => ?_)
    · replace q2 : ¬ kd S k = 8 := q2
      refine rn_ldcf dX4_reckon_73 wd_164 ?_
      refine rn_aload_n dX4_reckon_75 rfl ?_
      refine rn_getfield dX4_reckon_76 fo_X4_50 (h_node (by omega)) rfl ?_
      refine rn_i2f dX4_reckon_79 ?_
      refine rn_fmul dX4_reckon_80 (by show vf_n32 (FP.fmul 1056964608 (FP.i2f (sI S (k + 13) 5))); rw [hown2 q2]; exact fv_n _) ?_
      have hown := hown2 q2
      refine rn_topf (y := fv (own S k)) hown ?_
      refine rn_fstore_n dX4_reckon_81 (by decide) rfl ?_
      refine rn_aload_n dX4_reckon_82 rfl ?_
      refine rn_aload_n dX4_reckon_83 rfl ?_
      refine rn_getfield dX4_reckon_84 fo_X4_53 (h_node (by omega)) rfl ?_
      refine rn_fload_n dX4_reckon_87 rfl ?_
      refine rn_callV dX4_reckon_88 cv_X4_56 (c_X4_burden (S := S) (q := qLd S w k) HX hN hn (fun i hi => by have := qLd_r (fun i hi => (hsz i hi).1) (fun i hi => (hw i hi).1) k (by omega) i (by omega); omega) hown8) rfl (h_del HX) rfl rfl (by decide) (by decide) rfl (Nat.le_of_ble_eq_true rfl) ?_
      refine rn_aload_n dX4_reckon_91 rfl ?_
      refine rn_aload_n dX4_reckon_92 rfl ?_
      refine rn_getfield dX4_reckon_93 fo_X4_60 (h_node (by omega)) rfl ?_
      refine rn_fload_n dX4_reckon_96 rfl ?_
      refine rn_callV dX4_reckon_97 cv_X4_56 (c_X4_burden (S := S) (q := fun i => qLd S w k i + if fe1 S k = nI i then own S k else 0) HX hN hn (fun i hi => by have := qLd_r (fun i hi => (hsz i hi).1) (fun i hi => (hw i hi).1) k (by omega) i (by omega); show qLd S w k i + (if fe1 S k = nI i then own S k else 0) ≤ 900; split <;> omega) hown8) rfl (h_del HX) rfl rfl (by decide) (by decide) rfl (Nat.le_of_ble_eq_true rfl) ?_
      refine rn_eq (h2 := (wd (pF S (x + 1) (LF n (sF S (x + 1)) (qLd S w (k + 1)))) E, sl)) rfl ?_
      refine rn_iinc dX4_reckon_100 rfl (nI_1 _) (by decide) rfl ?_
      refine rn_goto (tgt := 39) dX4_reckon_103 rfl ?_
      exact rn_subg rfl ih
    · replace q2 : kd S k = 8 := q2
      have hown : FP.fconst2 = fv (own S k) := by unfold own; rw [if_pos q2, fv_2]; rfl
      refine rn_fconst2 dX4_reckon_69 ?_
      refine rn_goto (tgt := 81) dX4_reckon_70 rfl ?_
      refine rn_topf (y := fv (own S k)) hown ?_
      refine rn_fstore_n dX4_reckon_81 (by decide) rfl ?_
      refine rn_aload_n dX4_reckon_82 rfl ?_
      refine rn_aload_n dX4_reckon_83 rfl ?_
      refine rn_getfield dX4_reckon_84 fo_X4_53 (h_node (by omega)) rfl ?_
      refine rn_fload_n dX4_reckon_87 rfl ?_
      refine rn_callV dX4_reckon_88 cv_X4_56 (c_X4_burden (S := S) (q := qLd S w k) HX hN hn (fun i hi => by have := qLd_r (fun i hi => (hsz i hi).1) (fun i hi => (hw i hi).1) k (by omega) i (by omega); omega) hown8) rfl (h_del HX) rfl rfl (by decide) (by decide) rfl (Nat.le_of_ble_eq_true rfl) ?_
      refine rn_aload_n dX4_reckon_91 rfl ?_
      refine rn_aload_n dX4_reckon_92 rfl ?_
      refine rn_getfield dX4_reckon_93 fo_X4_60 (h_node (by omega)) rfl ?_
      refine rn_fload_n dX4_reckon_96 rfl ?_
      refine rn_callV dX4_reckon_97 cv_X4_56 (c_X4_burden (S := S) (q := fun i => qLd S w k i + if fe1 S k = nI i then own S k else 0) HX hN hn (fun i hi => by have := qLd_r (fun i hi => (hsz i hi).1) (fun i hi => (hw i hi).1) k (by omega) i (by omega); show qLd S w k i + (if fe1 S k = nI i then own S k else 0) ≤ 900; split <;> omega) hown8) rfl (h_del HX) rfl rfl (by decide) (by decide) rfl (Nat.le_of_ble_eq_true rfl) ?_
      refine rn_eq (h2 := (wd (pF S (x + 1) (LF n (sF S (x + 1)) (qLd S w (k + 1)))) E, sl)) rfl ?_
      refine rn_iinc dX4_reckon_100 rfl (nI_1 _) (by decide) rfl ?_
      refine rn_goto (tgt := 39) dX4_reckon_103 rfl ?_
      exact rn_subg rfl ih
set_option maxRecDepth 20000 in
theorem lp_X4_reckon1 {n nr nc nk : Nat} {w : Nat → Nat} (HX : x = 43 ∨ x = 46) (hT : Told S n nr nc nk) (hw : Tw S w) : ∀ j k : Nat, k + j = n → Rn l D ad tc L xs mX4_reckon 2 45 2 [(1, .int (nI k)), (0, .ref (x + 1))] [] (wd (pF S (x + 1) (LF k (sF S (x + 1)) w)) E, sl) none (wd (sDel S w n x) E, sl) := by
  obtain ⟨⟨hN, hn⟩, -, -, -, hv, hnd, hsz, -, -, -⟩ := id hT
  intro j
  induction j with
  | zero =>
    intro k hk
    have hk' : n = k := by omega
    subst hk'
    have hN1 := hN
    refine rn_iload_n dX4_reckon_2 rfl ?_
    refine rn_aload_n dX4_reckon_3 rfl ?_
    refine rn_getfield dX4_reckon_4 fo_X4_19 (h_del HX) rfl ?_
    refine rn_getfield dX4_reckon_7 fo_X4_30 h_chip rfl ?_
    refine rn_topi hN1 ?_
    refine rn_icmp_ge (tgt := 37) dX4_reckon_10 rfl (fun _ => ?_) (fun q1 => absurd (by exact Int32.le_refl _) q1)
    refine rn_iconst (v := 0) dX4_reckon_37 rfl ?_
    refine rn_istore_n dX4_reckon_38 (by decide) rfl ?_
    exact rn_subg rfl (lp_X4_reckon2 HX hT hw n 0 (by omega))
  | succ j ih =>
    intro k hk
    have hN1 := hN
    have ih := ih (k + 1) (by omega)
    refine rn_iload_n dX4_reckon_2 rfl ?_
    refine rn_aload_n dX4_reckon_3 rfl ?_
    refine rn_getfield dX4_reckon_4 fo_X4_19 (h_del HX) rfl ?_
    refine rn_getfield dX4_reckon_7 fo_X4_30 h_chip rfl ?_
    refine rn_topi hN1 ?_
    refine rn_icmp_ge (tgt := 37) dX4_reckon_10 rfl (fun q1 => absurd q1 (by rw [Int32.le_iff_toInt_le, nI_toInt (by omega), nI_toInt (by omega)] at q1; omega)) (fun _ => ?_)
    refine rn_aload_n dX4_reckon_13 rfl ?_
    refine rn_getfield dX4_reckon_14 fo_X4_9 (h_del HX) rfl ?_
    refine rn_iload_n dX4_reckon_17 rfl ?_
    refine rn_aload_n dX4_reckon_18 rfl ?_
    refine rn_getfield dX4_reckon_19 fo_X4_19 (h_del HX) rfl ?_
    refine rn_getfield dX4_reckon_22 fo_X4_36 h_chip rfl ?_
    refine rn_iload_n dX4_reckon_25 rfl ?_
    refine rn_aaload dX4_reckon_26 h_nodes rfl (vp_in_nI (by omega) (by decide)) (refs_at rfl (by omega) (by decide)) ?_
    refine rn_getfield dX4_reckon_27 fo_X4_40 (h_node (by omega)) rfl ?_
    refine rn_topf (y := fv (w k)) (by rw [show sF (pF S (x + 1) (LF k (sF S (x + 1)) w)) (k + 13) = sF S (k + 13) from up1_ne _ _ (by omega)]; exact (hw k (by omega)).2) ?_
    refine rn_pF (a := x + 1) (n := 16) dX4_reckon_30 (by omega) (by rcases HX with rfl | rfl <;> rfl) (by rcases HX with rfl | rfl <;> exact fun _ => rfl) (vp_in_nI (by omega) (by decide)) ?_
    rw [nI_clamp (by omega)]
    refine rn_eq (h2 := (wd (pF S (x + 1) (LF (k + 1) (sF S (x + 1)) w)) E, sl)) (congrArg (fun z => (wd z E, sl)) (by rw [pF_pF, show (pF S (x + 1) (LF k (sF S (x + 1)) w)).2.2.2.1 (x + 1) = LF k (sF S (x + 1)) w from pF_eq, LF_s])) ?_
    refine rn_iinc dX4_reckon_31 rfl (nI_1 _) (by decide) rfl ?_
    refine rn_goto (tgt := 2) dX4_reckon_34 rfl ?_
    exact rn_subg rfl ih
set_option maxRecDepth 20000 in
theorem c_X4_reckon {n nr nc nk : Nat} {w : Nat → Nat} (HX : x = 43 ∨ x = 46) (hT : Told S n nr nc nk) (hw : Tw S w) : Cn l D ad tc L xs mX4_reckon 2 45 [.ref (x + 1)] (wd S E, sl) none (wd (sDel S w n x) E, sl) := by
  refine cn_of (lv0 := [(0, .ref (x + 1))]) (by decide +kernel) rfl (fun _ => by simp [lg_sl, j_v, Value.category]) (fun _ => rfl) ?_
  refine rn_iconst (v := 0) dX4_reckon_0 rfl ?_
  refine rn_istore_n dX4_reckon_1 (by decide) rfl ?_
  refine rn_eq (h2 := (wd (pF S (x + 1) (LF 0 (sF S (x + 1)) w)) E, sl)) (congrArg (fun z => (wd z E, sl)) (by rw [LF_0]; exact (pF_id rfl).symm)) ?_
  exact rn_subg rfl (lp_X4_reckon1 HX hT hw n 0 (by omega))
theorem cc_del {S : jS} {x : Nat} (h : x = 43 ∨ x = 46) : cc S x = .inr (4, [.ref 2, .ref (x + 2), .ref (x + 3), .int (sI S x 3)]) := by rcases h with rfl | rfl <;> rfl
theorem cc_delI {S : jS} {x : Nat} {v : Int32} (h : x = 43 ∨ x = 46) : cc (pI S x 3 v) x = .inr (4, [.ref 2, .ref (x + 2), .ref (x + 3), .int (sI S x 3)].set 3 (.int v)) := by rcases h with rfl | rfl <;> rfl
def sDelays (S : jS) (w : Nat → Nat) (n x : Nat) : jS := if sI S x 3 = 0 then pI (sDel S w n x) x 3 1 else S
set_option maxRecDepth 20000 in
theorem c_X4_prepare {n nr nc nk : Nat} {w : Nat → Nat} (HX : x = 43 ∨ x = 46) (hT : Told S n nr nc nk) (hw : Tw S w) : Cn l D ad tc L xs mX4_prepare 3 68 [.ref (x + 1)] (wd S E, sl) none (wd (sDelays S w n x) E, sl) := by
  refine cn_of (lv0 := [(0, .ref (x + 1))]) (by decide +kernel) rfl (fun _ => by simp [lg_sl, j_v, Value.category]) (fun _ => rfl) ?_
  refine rn_aload_n dX4_prepare_0 rfl ?_
  refine rn_getfield dX4_prepare_1 fo_X4_23 (h_del HX) rfl ?_
  refine rn_if_ne (tgt := 16) dX4_prepare_4 rfl (fun q1 => ?_) (fun q1 => ?_)
  · exact rn_eq (by unfold sDelays; rw [if_neg q1]) (rn_ret dX4_prepare_16 trivial rfl)
  · refine rn_aload_n dX4_prepare_7 rfl ?_
    refine rn_callV dX4_prepare_8 cv_X4_27 (c_X4_reckon HX hT hw) rfl (h_del HX) rfl rfl (by decide) (by decide) rfl (Nat.le_of_ble_eq_true rfl) ?_
    refine rn_aload_n dX4_prepare_11 rfl ?_
    refine rn_iconst (v := 1) dX4_prepare_12 rfl ?_
    refine rn_pI (a := x) dX4_prepare_13 fp_X4_23 (by omega) (cc_del HX) (cc_delI HX) (by simp) ⟨rfl, rfl⟩ ⟨_, _, _, rfl, rfl⟩ ?_
    exact rn_eq (by unfold sDelays; rw [if_pos (q1)]) (rn_ret dX4_prepare_16 trivial rfl)
end D3
end
section
/-! Timing: the leaves; the timing j, at 5 * j + 49, in the corner c, whose factors are kl and ke eighths -/
def xT (j : Nat) : Nat := if j = 0 then 46 else 43
theorem delT_x (j : Nat) : delT j = xT j + 1 := by unfold delT xT; split <;> rfl
theorem xT_x (j : Nat) : xT j = 43 ∨ xT j = 46 := by unfold xT; split <;> simp
theorem isLateT_b (j : Nat) : isLateT j = 0 ∨ isLateT j = 1 := by unfold isLateT; split <;> (try split) <;> simp
def dE (p : Int) (e : Nat) : Int := if e = 0 then 32 * p else 24 * p
/-- 1 / 4096 of what an edge takes, late or early -/
def mDl (j kl ke : Nat) (p : Int) (e : Nat) : Int := (if isLateT j = 0 then (ke : Int) else (kl : Int)) * (if e = 0 then 4 * p else 3 * p)
theorem mDl_r {j kl ke e : Nat} {p : Int} (h1 : kl ≤ 16) (h2 : ke ≤ 16) (h3 : 0 ≤ p) (h4 : p ≤ 17000) : 0 ≤ mDl j kl ke p e ∧ mDl j kl ke p e ≤ 1088000 := by
  unfold mDl
  have key : ∀ a b : Int, 0 ≤ a → a ≤ 16 → 0 ≤ b → b ≤ 68000 → 0 ≤ a * b ∧ a * b ≤ 1088000 := fun a b x1 x2 x3 x4 => ⟨Int.mul_nonneg x1 x3, by
    have := Int.mul_le_mul x2 x4 x3 (by omega : (0 : Int) ≤ 16)
    omega⟩
  refine key _ _ ?_ ?_ ?_ ?_ <;> split <;> omega
section T1
variable {l : Launch} {D : va_G} {ad : Nat → Nat} {tc : Nat → ClassId} {L : Nat} {xs : Nat → Int32} {M : j_M} {d lo pc : Nat} {lv : j_L} {st : List Value} {h h' : j_H} {r : Option Value}
theorem rn_topr {x y : Nat} (e : x = y) (k : Rn l D ad tc L xs M d lo pc lv (.ref y :: st) h r h') : Rn l D ad tc L xs M d lo pc lv (.ref x :: st) h r h' := e ▸ k
end T1
section T2
variable {l : Launch} {D : va_G} {ad : Nat → Nat} {tc : Nat → ClassId} {L : Nat} {xs : Nat → Int32} {S : jS} {E : List j_C} {sl x : Nat}
set_option maxRecDepth 20000 in
theorem c_X4_ofEdge {i e : Nat} {p : Int} (HX : x = 43 ∨ x = 46) (hi : i < 16) (he : e ≤ 1) (hr : sD S (x + 2) i = dv (32 * p)) (hp : 0 ≤ p) (hp2 : p ≤ 17000) : Cn l D ad tc L xs mX4_ofEdge 0 0 [.ref (x + 1), .int (nI i), .int (nI e)] (wd S E, sl) (some (.double (dv (dE p e)))) (wd S E, sl) := by
  refine cn_of (lv0 := [(0, .ref (x + 1)), (1, .int (nI i)), (2, .int (nI e))]) (by decide +kernel) rfl (fun _ => by simp [lg_sl, j_v, Value.category]) (fun _ => rfl) ?_
  refine rn_iload_n dX4_ofEdge_0 rfl ?_
  refine rn_if_ne (tgt := 13) dX4_ofEdge_1 rfl (fun q1 => ?_) (fun q1 => ?_)
  · have e1 : ¬ e = 0 := fun z => q1 (by rw [z]; rfl)
    have e2 : e = 1 := by omega
    subst e2
    refine rn_dcon (n := 0) (m := 3072) dX4_ofEdge_13 wd_197 (by decide +kernel) ?_
    refine rn_aload_n dX4_ofEdge_16 rfl ?_
    refine rn_getfield dX4_ofEdge_17 fo_X4_15 (h_del HX) rfl ?_
    refine rn_iload_n dX4_ofEdge_20 rfl ?_
    refine rn_daload dX4_ofEdge_21 (h_rises HX) rfl (vp_in_nI (by omega) (by decide)) ?_
    rw [nI_clamp (by omega)]
    rw [hr]
    refine rn_dmulv (c := 24 * p) dX4_ofEdge_22 (dB_of (by omega) (by omega)) (dB_of (by omega) (by omega)) (by omega) (by omega) (by omega) ?_
    exact rn_ret dX4_ofEdge_23 trivial rfl
  · have e0 : e = 0 := (nI_eq (b := 0) (by omega) (by decide)).mp q1
    subst e0
    refine rn_aload_n dX4_ofEdge_4 rfl ?_
    refine rn_getfield dX4_ofEdge_5 fo_X4_15 (h_del HX) rfl ?_
    refine rn_iload_n dX4_ofEdge_8 rfl ?_
    refine rn_daload dX4_ofEdge_9 (h_rises HX) rfl (vp_in_nI (by omega) (by decide)) ?_
    rw [nI_clamp (by omega)]
    rw [hr]
    refine rn_goto (tgt := 23) dX4_ofEdge_10 rfl ?_
    exact rn_ret dX4_ofEdge_23 trivial rfl
set_option maxRecDepth 20000 in
theorem c_X5_lag {i a b : Nat} (hi : i < 16) (hv : sV S i < 4) (ha : sI S (sV S i + 6) 1 = nI a) (hb : sI S (i + 13) 7 = nI b) (ha1 : a ≤ 100) (hb1 : b ≤ 20) : Cn l D ad tc L xs mX5_lag 0 0 [.ref (i + 14)] (wd S E, sl) (some (.double (dv (1024 * (a + b : Nat))))) (wd S E, sl) := by
  refine cn_of (lv0 := [(0, .ref (i + 14))]) (by decide +kernel) rfl (fun _ => by simp [lg_sl, j_v, Value.category]) (fun _ => rfl) ?_
  refine rn_aload_n dX5_lag_0 rfl ?_
  refine rn_getfield dX5_lag_1 fo_X5_28 (h_node (by omega)) rfl ?_
  refine rn_getfield dX5_lag_4 fo_X5_35 (h_clock (by omega)) rfl ?_
  rw [ha]
  refine rn_aload_n dX5_lag_7 rfl ?_
  refine rn_getfield dX5_lag_8 fo_X5_40 (h_node (by omega)) rfl ?_
  rw [hb]
  refine rn_iadd dX5_lag_11 ?_
  refine rn_topi (nI_add _ _) ?_
  refine rn_i2dv dX5_lag_12 ?_
  rw [nI_toInt (by omega)]
  refine rn_dcon (n := 0) (m := 1024) dX5_lag_13 wd_208 (by decide +kernel) ?_
  refine rn_dmulv (c := 1024 * (a + b : Nat)) dX5_lag_16 (dB_of (by omega) (by omega)) (dB_of (by omega) (by omega)) (by omega) (by omega) (by omega) ?_
  exact rn_ret dX5_lag_17 trivial rfl
set_option maxRecDepth 20000 in
theorem c_X8_delayOf {j i e c kl ke : Nat} {p : Int} (hj : j < 7) (hi : i < 16) (he : e ≤ 1) (hc : c < 3) (hkl : sD S (c + 10) 0 = dv (512 * kl)) (hke : sD S (c + 10) 1 = dv (512 * ke)) (hl1 : kl ≤ 16) (hk1 : ke ≤ 16) (hr : sD S (xT j + 2) i = dv (32 * p)) (hp : 0 ≤ p) (hp2 : p ≤ 17000) : Cn l D ad tc L xs mX8_delayOf 1 22 [.ref (5 * j + 50), .int (nI i), .int (nI e), .ref (c + 11)] (wd S E, sl) (some (.double (dv (mDl j kl ke p e)))) (wd S E, sl) := by
  refine cn_of (lv0 := [(0, .ref (5 * j + 50)), (1, .int (nI i)), (2, .int (nI e)), (3, .ref (c + 11))]) (by decide +kernel) rfl (fun _ => by simp [lg_sl, j_v, Value.category]) (fun _ => rfl) ?_
  have hdE0 : 0 ≤ dE p e := by unfold dE; split <;> omega
  have hdE : dB (dE p e) := by unfold dE; split <;> exact dB_of (by omega) (by omega)
  refine rn_aload_n dX8_delayOf_0 rfl ?_
  refine rn_getfield dX8_delayOf_1 fo_X8_36 (h_tim (by omega)) rfl ?_
  refine rn_if_eq (tgt := 14) dX8_delayOf_4 rfl (fun q1 => ?_) (fun q1 => ?_)
  · have hM : (512 * (ke : Int)) * dE p e = mDl j kl ke p e * 4096 := by unfold mDl dE; rw [if_pos q1]; split <;> grind
    refine rn_aload_n dX8_delayOf_14 rfl ?_
    refine rn_getfield dX8_delayOf_15 fo_X8_81 (h_corner (by omega)) rfl ?_
    refine rn_topd hke ?_
    refine rn_aload_n dX8_delayOf_18 rfl ?_
    refine rn_getfield dX8_delayOf_19 fo_X8_32 (h_tim (by omega)) rfl ?_
    refine rn_topr (delT_x j) ?_
    refine rn_iload_n dX8_delayOf_22 rfl ?_
    refine rn_iload_n dX8_delayOf_23 rfl ?_
    refine rn_callV dX8_delayOf_24 cv_X8_84 (c_X4_ofEdge (xT_x j) hi he hr hp hp2) rfl (h_del (xT_x j)) rfl rfl (by decide) (by decide) rfl (Nat.le_of_ble_eq_true rfl) ?_
    refine rn_dmulv (c := mDl j kl ke p e) dX8_delayOf_27 (dB_of (by omega) (by omega)) hdE (by omega) hdE0 hM ?_
    exact rn_ret dX8_delayOf_28 trivial rfl
  · have hM : (512 * (kl : Int)) * dE p e = mDl j kl ke p e * 4096 := by unfold mDl dE; rw [if_neg q1]; split <;> grind
    refine rn_aload_n dX8_delayOf_7 rfl ?_
    refine rn_getfield dX8_delayOf_8 fo_X8_75 (h_corner (by omega)) rfl ?_
    refine rn_topd hkl ?_
    refine rn_goto (tgt := 18) dX8_delayOf_11 rfl ?_
    refine rn_aload_n dX8_delayOf_18 rfl ?_
    refine rn_getfield dX8_delayOf_19 fo_X8_32 (h_tim (by omega)) rfl ?_
    refine rn_topr (delT_x j) ?_
    refine rn_iload_n dX8_delayOf_22 rfl ?_
    refine rn_iload_n dX8_delayOf_23 rfl ?_
    refine rn_callV dX8_delayOf_24 cv_X8_84 (c_X4_ofEdge (xT_x j) hi he hr hp hp2) rfl (h_del (xT_x j)) rfl rfl (by decide) (by decide) rfl (Nat.le_of_ble_eq_true rfl) ?_
    refine rn_dmulv (c := mDl j kl ke p e) dX8_delayOf_27 (dB_of (by omega) (by omega)) hdE (by omega) hdE0 hM ?_
    exact rn_ret dX8_delayOf_28 trivial rfl
set_option maxRecDepth 20000 in
theorem c_X8_beats {j s a b : Nat} {p q : Int} (hj : j < 7) (hs : s < 16) (ha : a < 32) (hb : b < 32) (hpa : sD S (5 * j + 50) (s * 32 + a) = dv p) (hqb : sD S (5 * j + 50) (s * 32 + b) = dv q) (hp : dB p) (hq : dB q) : Cn l D ad tc L xs mX8_beats 0 0 [.ref (5 * j + 50), .int (nI s), .int (nI a), .int (nI b)] (wd S E, sl) (some (.int (bI (decide (if isLateT j = 0 then p < q else q < p))))) (wd S E, sl) := by
  refine cn_of (lv0 := [(0, .ref (5 * j + 50)), (1, .int (nI s)), (2, .int (nI a)), (3, .int (nI b))]) (by decide +kernel) ⟨_, rfl, bI_nar _⟩ (fun _ => by simp [lg_sl, j_v, Value.category]) (fun _ => rfl) ?_
  refine rn_aload_n dX8_beats_0 rfl ?_
  refine rn_getfield dX8_beats_1 fo_X8_9 (h_tim (by omega)) rfl ?_
  refine rn_iload_n dX8_beats_4 rfl ?_
  refine rn_bipush (v := nI 32) dX8_beats_5 (by decide) ?_
  refine rn_imul dX8_beats_7 ?_
  refine rn_topi (nI_mul _ _) ?_
  refine rn_iload_n dX8_beats_8 rfl ?_
  refine rn_iadd dX8_beats_9 ?_
  refine rn_topi (nI_add _ _) ?_
  refine rn_daload dX8_beats_10 (h_arr (by omega)) rfl (vp_in_nI (by omega) (by decide)) ?_
  rw [nI_clamp (by omega)]
  rw [hpa]
  refine rn_dstore dX8_beats_11 (by decide) rfl ?_
  refine rn_aload_n dX8_beats_13 rfl ?_
  refine rn_getfield dX8_beats_14 fo_X8_9 (h_tim (by omega)) rfl ?_
  refine rn_iload_n dX8_beats_17 rfl ?_
  refine rn_bipush (v := nI 32) dX8_beats_18 (by decide) ?_
  refine rn_imul dX8_beats_20 ?_
  refine rn_topi (nI_mul _ _) ?_
  refine rn_iload_n dX8_beats_21 rfl ?_
  refine rn_iadd dX8_beats_22 ?_
  refine rn_topi (nI_add _ _) ?_
  refine rn_daload dX8_beats_23 (h_arr (by omega)) rfl (vp_in_nI (by omega) (by decide)) ?_
  rw [nI_clamp (by omega)]
  rw [hqb]
  refine rn_dstore dX8_beats_24 (by decide) rfl ?_
  refine rn_aload_n dX8_beats_26 rfl ?_
  refine rn_getfield dX8_beats_27 fo_X8_36 (h_tim (by omega)) rfl ?_
  refine rn_if_eq (tgt := 49) dX8_beats_30 rfl (fun q1 => ?_) (fun q1 => ?_)
  · refine rn_dload dX8_beats_49 rfl ?_
    refine rn_dload dX8_beats_51 rfl ?_
    refine rn_dcmpv dX8_beats_53 hp hq ?_
    refine rn_if_ge (tgt := 61) dX8_beats_54 rfl (fun q2 => ?_) (fun q2 => ?_)
    · replace q2 : ¬ p < q := fun z => absurd (cmpI_lt.mpr z) (Int32.not_lt.mpr q2)
      refine rn_iconst (v := 0) dX8_beats_61 rfl ?_
      exact rn_ret dX8_beats_62 trivial (by simp_all [bI])
    · replace q2 : p < q := cmpI_lt.mp (Int32.not_le.mp q2)
      refine rn_iconst (v := 1) dX8_beats_57 rfl ?_
      refine rn_goto (tgt := 62) dX8_beats_58 rfl ?_
      exact rn_ret dX8_beats_62 trivial (by simp_all [bI])
  · refine rn_dload dX8_beats_33 rfl ?_
    refine rn_dload dX8_beats_35 rfl ?_
    refine rn_dcmpv dX8_beats_37 hp hq ?_
    refine rn_if_le (tgt := 45) dX8_beats_38 rfl (fun q3 => ?_) (fun q3 => ?_)
    · replace q3 : ¬ q < p := fun z => absurd (cmpI_gt.mpr z) (Int32.not_lt.mpr q3)
      refine rn_iconst (v := 0) dX8_beats_45 rfl ?_
      refine rn_goto (tgt := 62) dX8_beats_46 rfl ?_
      exact rn_ret dX8_beats_62 trivial (by simp_all [bI])
    · replace q3 : q < p := cmpI_gt.mp (Int32.not_le.mp q3)
      refine rn_iconst (v := 1) dX8_beats_41 rfl ?_
      refine rn_goto (tgt := 62) dX8_beats_42 rfl ?_
      exact rn_ret dX8_beats_62 trivial (by simp_all [bI])
def mCr (kl ke a b : Nat) (same : Bool) : Int := if same = true then 128 * (((kl : Int) - ke) * (min a b : Nat)) else 0
theorem mCr_r {kl ke a b : Nat} {same : Bool} (h1 : kl ≤ 16) (h2 : ke ≤ kl) (h3 : a ≤ 100) : 0 ≤ mCr kl ke a b same ∧ mCr kl ke a b same ≤ 204800 := by
  unfold mCr
  split
  · have x1 : (0 : Int) ≤ (kl : Int) - ke := by omega
    have x2 : (kl : Int) - ke ≤ 16 := by omega
    have x3 : (0 : Int) ≤ ((min a b : Nat) : Int) := by omega
    have x4 : ((min a b : Nat) : Int) ≤ 100 := by omega
    have y1 := Int.mul_nonneg x1 x3
    have y2 := Int.mul_le_mul x2 x4 x3 (by omega : (0 : Int) ≤ 16)
    omega
  · omega
set_option maxRecDepth 20000 in
theorem c_X8_credit {u v c a b kl ke : Nat} (hu : u < 4) (hv : v < 4) (hc : c < 3) (ha : sI S (u + 6) 1 = nI a) (hb : sI S (v + 6) 1 = nI b) (ha1 : a ≤ 100) (hb1 : b ≤ 100) (hkl : sD S (c + 10) 0 = dv (512 * kl)) (hke : sD S (c + 10) 1 = dv (512 * ke)) (hl1 : kl ≤ 16) (hk1 : ke ≤ kl) : Cn l D ad tc L xs mX8_credit 0 0 [.ref (u + 7), .ref (v + 7), .ref (c + 11)] (wd S E, sl) (some (.double (dv (mCr kl ke a b (decide (sI S (u + 6) 4 = sI S (v + 6) 4)))))) (wd S E, sl) := by
  refine cn_of (lv0 := [(0, .ref (u + 7)), (1, .ref (v + 7)), (2, .ref (c + 11))]) (by decide +kernel) rfl (fun _ => by simp [lg_sl, j_v, Value.category]) (fun _ => rfl) ?_
  refine rn_aload_n dX8_credit_0 rfl ?_
  refine rn_getfield dX8_credit_1 fo_X8_166 (h_clock (by omega)) rfl ?_
  refine rn_aload_n dX8_credit_4 rfl ?_
  refine rn_getfield dX8_credit_5 fo_X8_166 (h_clock (by omega)) rfl ?_
  refine rn_icmp_eq (tgt := 13) dX8_credit_8 rfl (fun q1 => ?_) (fun q1 => ?_)
  · refine rn_aload_n dX8_credit_13 rfl ?_
    refine rn_getfield dX8_credit_14 fo_X8_169 (h_clock (by omega)) rfl ?_
    rw [ha]
    refine rn_aload_n dX8_credit_17 rfl ?_
    refine rn_getfield dX8_credit_18 fo_X8_169 (h_clock (by omega)) rfl ?_
    rw [hb]
    refine rn_icmp_gt (tgt := 31) dX8_credit_21 rfl (fun q2 => ?_) (fun q2 => ?_)
    · replace q2 : b < a := (nI_ltI (by omega) (by omega)).mp q2
      refine rn_aload_n dX8_credit_31 rfl ?_
      refine rn_getfield dX8_credit_32 fo_X8_169 (h_clock (by omega)) rfl ?_
      refine rn_topi (y := nI (min a b)) (by rw [hb, show min a b = b by omega]) ?_
      refine rn_istore_n dX8_credit_35 (by decide) rfl ?_
      refine rn_aload_n dX8_credit_36 rfl ?_
      refine rn_getfield dX8_credit_37 fo_X8_75 (h_corner (by omega)) rfl ?_
      refine rn_topd hkl ?_
      refine rn_aload_n dX8_credit_40 rfl ?_
      refine rn_getfield dX8_credit_41 fo_X8_81 (h_corner (by omega)) rfl ?_
      refine rn_topd hke ?_
      refine rn_dsubv dX8_credit_44 (dB_of (by omega) (by omega)) (dB_of (by omega) (by omega)) ?_
      refine rn_iload_n dX8_credit_45 rfl ?_
      refine rn_i2dv dX8_credit_46 ?_
      rw [nI_toInt (by omega)]
      refine rn_dcon (n := 0) (m := 1024) dX8_credit_47 wd_350 (by decide +kernel) ?_
      refine rn_dmulv (c := 1024 * (min a b : Nat)) dX8_credit_50 (dB_of (by omega) (by omega)) (dB_of (by omega) (by omega)) (by omega) (by omega) (by omega) ?_
      refine rn_dmulv (c := 128 * (((kl : Int) - ke) * (min a b : Nat))) dX8_credit_51 (dB_of (by omega) (by omega)) (dB_of (by omega) (by omega)) (by omega) (by omega) (by grind) ?_
      exact rn_ret dX8_credit_52 trivial (by unfold mCr; rw [if_pos (by simpa using q1)]; rfl)
    · replace q2 : ¬ b < a := fun z => q2 ((nI_ltI (by omega) (by omega)).mpr z)
      refine rn_aload_n dX8_credit_24 rfl ?_
      refine rn_getfield dX8_credit_25 fo_X8_169 (h_clock (by omega)) rfl ?_
      refine rn_goto (tgt := 35) dX8_credit_28 rfl ?_
      refine rn_topi (y := nI (min a b)) (by rw [ha, show min a b = a by omega]) ?_
      refine rn_istore_n dX8_credit_35 (by decide) rfl ?_
      refine rn_aload_n dX8_credit_36 rfl ?_
      refine rn_getfield dX8_credit_37 fo_X8_75 (h_corner (by omega)) rfl ?_
      refine rn_topd hkl ?_
      refine rn_aload_n dX8_credit_40 rfl ?_
      refine rn_getfield dX8_credit_41 fo_X8_81 (h_corner (by omega)) rfl ?_
      refine rn_topd hke ?_
      refine rn_dsubv dX8_credit_44 (dB_of (by omega) (by omega)) (dB_of (by omega) (by omega)) ?_
      refine rn_iload_n dX8_credit_45 rfl ?_
      refine rn_i2dv dX8_credit_46 ?_
      rw [nI_toInt (by omega)]
      refine rn_dcon (n := 0) (m := 1024) dX8_credit_47 wd_350 (by decide +kernel) ?_
      refine rn_dmulv (c := 1024 * (min a b : Nat)) dX8_credit_50 (dB_of (by omega) (by omega)) (dB_of (by omega) (by omega)) (by omega) (by omega) (by omega) ?_
      refine rn_dmulv (c := 128 * (((kl : Int) - ke) * (min a b : Nat))) dX8_credit_51 (dB_of (by omega) (by omega)) (dB_of (by omega) (by omega)) (by omega) (by omega) (by grind) ?_
      exact rn_ret dX8_credit_52 trivial (by unfold mCr; rw [if_pos (by simpa using q1)]; rfl)
  · refine rn_dcon0 dX8_credit_11 ?_
    exact rn_ret dX8_credit_12 trivial (by unfold mCr; rw [if_neg (by simpa using q1)]; rfl)
end T2
end
section
/-! Timing: by which spot an arrival came -/
def mkB (S : jS) (i f e : Nat) : Bool := decide (kd S i = 5 ∨ (if kd S i = 2 ∨ kd S i = 4 then nI f ≠ nI e else nI f = nI e))
def okC (S : jS) (s i e : Nat) (v : Int32) (f : Nat) : Bool := decide (v ≠ -1) && bitR (sA S 39) s v.toNatClampNeg && mkB S i f e
/-- one candidate more -/
def srcS (j : Nat) (A : Nat → Int) (ok : Bool) (c : Nat) (b : Int32) : Int32 := if ok = true ∧ (b = -1 ∨ (if isLateT j = 0 then A c < A b.toNatClampNeg else A b.toNatClampNeg < A c)) then nI c else b
def mSrc (S : jS) (j : Nat) (A : Nat → Int) (s i e : Nat) : Int32 :=
  srcS j A (okC S s i e (fe2 S i) 1) ((fe2 S i).toNatClampNeg * 2 + 1) (srcS j A (okC S s i e (fe2 S i) 0) ((fe2 S i).toNatClampNeg * 2 + 0) (srcS j A (okC S s i e (fe1 S i) 1) ((fe1 S i).toNatClampNeg * 2 + 1) (srcS j A (okC S s i e (fe1 S i) 0) ((fe1 S i).toNatClampNeg * 2 + 0) (-1))))
/-- a spot, or none; its arrival is a number of the grid -/
def okB (S : jS) (j s : Nat) (A : Nat → Int) (b : Int32) : Prop := b = -1 ∨ ∃ c, c < 32 ∧ b = nI c ∧ sD S (5 * j + 50) (s * 32 + c) = dv (A c) ∧ dB (A c)
theorem okB_s {S : jS} {j s : Nat} {A : Nat → Int} {ok : Bool} {c : Nat} {b : Int32} (hb : okB S j s A b) (hc : ok = true → c < 32 ∧ sD S (5 * j + 50) (s * 32 + c) = dv (A c) ∧ dB (A c)) : okB S j s A (srcS j A ok c b) := by
  unfold srcS
  by_cases h : ok = true ∧ (b = -1 ∨ (if isLateT j = 0 then A c < A b.toNatClampNeg else A b.toNatClampNeg < A c))
  · rw [if_pos h]
    exact Or.inr ⟨c, (hc h.1).1, rfl, (hc h.1).2⟩
  · rw [if_neg h]
    exact hb
section T3
variable {l : Launch} {D : va_G} {ad : Nat → Nat} {tc : Nat → ClassId} {L : Nat} {xs : Nat → Int32} {S : jS} {E : List j_C} {sl x : Nat}
set_option maxRecDepth 20000 in
theorem lp_src {j s i e f a : Nat} {A : Nat → Int} {t b : Int32} {r : Option Value} {h' : j_H} (hj : j < 7) (hs : s < 16) (hi : i < 16) (he : e ≤ 1) (hf : f ≤ 1) (ha : a < 16) (hb : okB S j s A b)
    (hA : okC S s i e (nI a) f = true → a * 2 + f < 32 ∧ sD S (5 * j + 50) (s * 32 + (a * 2 + f)) = dv (A (a * 2 + f)) ∧ dB (A (a * 2 + f)))
    (K : Rn l D ad tc L xs mX8_sourceOf 1 27 125 [(7, .int (nI f)), (6, .int (nI a)), (5, .int t), (4, .int (srcS j A (okC S s i e (nI a) f) (a * 2 + f) b)), (3, .ref (i + 14)), (0, .ref (5 * j + 50)), (1, .int (nI s)), (2, .int (nI (i * 2 + e)))] [] (wd S E, sl) r h') : Rn l D ad tc L xs mX8_sourceOf 1 27 57 [(7, .int (nI f)), (6, .int (nI a)), (5, .int t), (4, .int b), (3, .ref (i + 14)), (0, .ref (5 * j + 50)), (1, .int (nI s)), (2, .int (nI (i * 2 + e)))] [] (wd S E, sl) r h' := by
  have hna : nI a ≠ -1 := fun z => by
    have := congrArg Int32.toInt z
    rw [nI_toInt (by omega), show (-1 : Int32).toInt = -1 by decide] at this
    omega
  refine rn_aload_n dX8_sourceOf_57 rfl ?_
  refine rn_getfield dX8_sourceOf_58 fo_X8_28 (h_tim (by omega)) rfl ?_
  refine rn_iload_n dX8_sourceOf_61 rfl ?_
  refine rn_iload dX8_sourceOf_62 rfl ?_
  refine rn_callV dX8_sourceOf_64 cv_X8_94 (c_X6_reaches (by omega)) rfl h_paths rfl rfl (by decide) (by decide) rfl (Nat.le_of_ble_eq_true rfl) ?_
  refine rn_if_eq (tgt := 86) dX8_sourceOf_67 rfl (fun q1 => ?_) (fun q1 => ?_)
  · rw [bI_0] at q1
    have hk : okC S s i e (nI a) f = false := by unfold okC; rw [nI_clamp (by omega), show bitR (sA S 39) s a = false from q1]; simp
    have hs0 : srcS j A (okC S s i e (nI a) f) (a * 2 + f) b = b := by unfold srcS; rw [if_neg (fun z => by rw [hk] at z; exact absurd z.1 (by decide))]
    rw [hs0] at K
    refine rn_iconst (v := 0) dX8_sourceOf_86 rfl ?_
    refine rn_istore dX8_sourceOf_87 (by decide) rfl ?_
    refine rn_iload dX8_sourceOf_89 rfl ?_
    refine rn_iconst (v := nI 2) dX8_sourceOf_91 (by decide) ?_
    refine rn_imul dX8_sourceOf_92 ?_
    refine rn_topi (nI_mul _ _) ?_
    refine rn_iload dX8_sourceOf_93 rfl ?_
    refine rn_iadd dX8_sourceOf_95 ?_
    refine rn_topi (nI_add _ _) ?_
    refine rn_istore dX8_sourceOf_96 (by decide) rfl ?_
    refine rn_iload dX8_sourceOf_98 rfl ?_
    refine rn_if_eq (tgt := 125) dX8_sourceOf_100 rfl (fun _ => ?_) (fun q => absurd (by decide) q)
    exact rn_subg rfl K
  · rw [bI_n] at q1
    refine rn_aload_n dX8_sourceOf_70 rfl ?_
    refine rn_iload dX8_sourceOf_71 rfl ?_
    refine rn_iload_n dX8_sourceOf_73 rfl ?_
    refine rn_iconst (v := 2) dX8_sourceOf_74 rfl ?_
    refine rn_irem dX8_sourceOf_75 (by decide) ?_
    rw [show (2 : Int32) = nI 2 by decide, pk_rem (by omega) (by decide) (by decide), show (i * 2 + e) % 2 = e by omega]
    refine rn_callV dX8_sourceOf_76 cv_X8_110 (c_X5_makes (by omega)) rfl (h_node (by omega)) rfl rfl (by decide) (by decide) rfl (Nat.le_of_ble_eq_true rfl) ?_
    refine rn_if_eq (tgt := 86) dX8_sourceOf_79 rfl (fun q2 => ?_) (fun q2 => ?_)
    · rw [bI_0] at q2
      have hk : okC S s i e (nI a) f = false := by unfold okC; rw [show mkB S i f e = false from q2]; simp
      have hs0 : srcS j A (okC S s i e (nI a) f) (a * 2 + f) b = b := by unfold srcS; rw [if_neg (fun z => by rw [hk] at z; exact absurd z.1 (by decide))]
      rw [hs0] at K
      refine rn_iconst (v := 0) dX8_sourceOf_86 rfl ?_
      refine rn_istore dX8_sourceOf_87 (by decide) rfl ?_
      refine rn_iload dX8_sourceOf_89 rfl ?_
      refine rn_iconst (v := nI 2) dX8_sourceOf_91 (by decide) ?_
      refine rn_imul dX8_sourceOf_92 ?_
      refine rn_topi (nI_mul _ _) ?_
      refine rn_iload dX8_sourceOf_93 rfl ?_
      refine rn_iadd dX8_sourceOf_95 ?_
      refine rn_topi (nI_add _ _) ?_
      refine rn_istore dX8_sourceOf_96 (by decide) rfl ?_
      refine rn_iload dX8_sourceOf_98 rfl ?_
      refine rn_if_eq (tgt := 125) dX8_sourceOf_100 rfl (fun _ => ?_) (fun q => absurd (by decide) q)
      exact rn_subg rfl K
    · rw [bI_n] at q2
      have hk : okC S s i e (nI a) f = true := by unfold okC; rw [nI_clamp (by omega), show bitR (sA S 39) s a = true from q1, show mkB S i f e = true from q2, decide_eq_true hna]; rfl
      obtain ⟨hc32, hcv, hcd⟩ := hA hk
      refine rn_iconst (v := 1) dX8_sourceOf_82 rfl ?_
      refine rn_goto (tgt := 87) dX8_sourceOf_83 rfl ?_
      refine rn_istore dX8_sourceOf_87 (by decide) rfl ?_
      refine rn_iload dX8_sourceOf_89 rfl ?_
      refine rn_iconst (v := nI 2) dX8_sourceOf_91 (by decide) ?_
      refine rn_imul dX8_sourceOf_92 ?_
      refine rn_topi (nI_mul _ _) ?_
      refine rn_iload dX8_sourceOf_93 rfl ?_
      refine rn_iadd dX8_sourceOf_95 ?_
      refine rn_topi (nI_add _ _) ?_
      refine rn_istore dX8_sourceOf_96 (by decide) rfl ?_
      refine rn_iload dX8_sourceOf_98 rfl ?_
      refine rn_if_eq (tgt := 125) dX8_sourceOf_100 rfl (fun q => absurd q (by decide)) (fun _ => ?_)
      refine rn_iload dX8_sourceOf_103 rfl ?_
      refine rn_iconst (v := (-1)) dX8_sourceOf_105 rfl ?_
      refine rn_icmp_eq (tgt := 121) dX8_sourceOf_106 rfl (fun q3 => ?_) (fun q3 => ?_)
      · have hs0 : srcS j A (okC S s i e (nI a) f) (a * 2 + f) b = nI (a * 2 + f) := by unfold srcS; rw [if_pos ⟨hk, Or.inl q3⟩]
        rw [hs0] at K
        refine rn_iload dX8_sourceOf_121 rfl ?_
        refine rn_istore dX8_sourceOf_123 (by decide) rfl ?_
        exact rn_subg rfl K
      · obtain ⟨c0, hc0, rfl, hbv, hbd⟩ := hb.resolve_left q3
        refine rn_aload_n dX8_sourceOf_109 rfl ?_
        refine rn_iload_n dX8_sourceOf_110 rfl ?_
        refine rn_iload dX8_sourceOf_111 rfl ?_
        refine rn_iload dX8_sourceOf_113 rfl ?_
        refine rn_callV dX8_sourceOf_115 cv_X8_113 (c_X8_beats hj hs (by omega) (by omega) hcv hbv hcd hbd) rfl (h_tim (by omega)) rfl rfl (by decide) (by decide) rfl (Nat.le_of_ble_eq_true rfl) ?_
        refine rn_if_eq (tgt := 125) dX8_sourceOf_118 rfl (fun q4 => ?_) (fun q4 => ?_)
        · rw [bI_0] at q4
          have hs0 : srcS j A (okC S s i e (nI a) f) (a * 2 + f) (nI c0) = nI c0 := by unfold srcS; rw [nI_clamp (by omega), if_neg (fun z => z.2.elim q3 (of_decide_eq_false q4))]
          rw [hs0] at K
          exact rn_subg rfl K
        · rw [bI_n] at q4
          have hs0 : srcS j A (okC S s i e (nI a) f) (a * 2 + f) (nI c0) = nI (a * 2 + f) := by unfold srcS; rw [nI_clamp (by omega), if_pos ⟨hk, Or.inr (of_decide_eq_true q4)⟩]
          rw [hs0] at K
          refine rn_iload dX8_sourceOf_121 rfl ?_
          refine rn_istore dX8_sourceOf_123 (by decide) rfl ?_
          exact rn_subg rfl K
set_option maxRecDepth 20000 in
theorem lp_turn {j s i e : Nat} {A : Nat → Int} {v t b : Int32} {r : Option Value} {h' : j_H} (hj : j < 7) (hs : s < 16) (hi : i < 16) (he : e ≤ 1) (hv : v = -1 ∨ ∃ a, a < 16 ∧ v = nI a) (hb : okB S j s A b)
    (hA : ∀ f, f ≤ 1 → okC S s i e v f = true → v.toNatClampNeg * 2 + f < 32 ∧ sD S (5 * j + 50) (s * 32 + (v.toNatClampNeg * 2 + f)) = dv (A (v.toNatClampNeg * 2 + f)) ∧ dB (A (v.toNatClampNeg * 2 + f)))
    (K : Rn l D ad tc L xs mX8_sourceOf 1 27 131 [(5, .int t), (4, .int (srcS j A (okC S s i e v 1) (v.toNatClampNeg * 2 + 1) (srcS j A (okC S s i e v 0) (v.toNatClampNeg * 2 + 0) b))), (3, .ref (i + 14)), (0, .ref (5 * j + 50)), (1, .int (nI s)), (2, .int (nI (i * 2 + e)))] [] (wd S E, sl) r h') : Rn l D ad tc L xs mX8_sourceOf 1 27 45 [(7, .int 0), (6, .int v), (5, .int t), (4, .int b), (3, .ref (i + 14)), (0, .ref (5 * j + 50)), (1, .int (nI s)), (2, .int (nI (i * 2 + e)))] [] (wd S E, sl) r h' := by
  rcases hv with hv | ⟨a, ha, rfl⟩
  · have hk : ∀ f, okC S s i e v f = false := fun f => by unfold okC; rw [hv]; rfl
    have hs0 : ∀ f c b, srcS j A (okC S s i e v f) c b = b := fun f c b => by unfold srcS; rw [if_neg (fun z => by rw [hk] at z; exact absurd z.1 (by decide))]
    rw [hs0, hs0] at K
    refine rn_iload dX8_sourceOf_45 rfl ?_
    refine rn_iconst (v := 1) dX8_sourceOf_47 rfl ?_
    refine rn_icmp_gt (tgt := 131) dX8_sourceOf_48 rfl (fun q => absurd q (by decide)) (fun _ => ?_)
    refine rn_iload dX8_sourceOf_51 rfl ?_
    refine rn_iconst (v := (-1)) dX8_sourceOf_53 rfl ?_
    refine rn_icmp_eq (tgt := 131) dX8_sourceOf_54 rfl (fun _ => ?_) (fun q1 => absurd (by exact hv) q1)
    exact rn_subg rfl K
  · have hna : nI a ≠ -1 := fun z => by
      have := congrArg Int32.toInt z
      rw [nI_toInt (by omega), show (-1 : Int32).toInt = -1 by decide] at this
      omega
    rw [nI_clamp (by omega)] at hA K
    refine rn_iload dX8_sourceOf_45 rfl ?_
    refine rn_iconst (v := 1) dX8_sourceOf_47 rfl ?_
    refine rn_icmp_gt (tgt := 131) dX8_sourceOf_48 rfl (fun q => absurd q (by decide)) (fun _ => ?_)
    refine rn_iload dX8_sourceOf_51 rfl ?_
    refine rn_iconst (v := (-1)) dX8_sourceOf_53 rfl ?_
    refine rn_icmp_eq (tgt := 131) dX8_sourceOf_54 rfl (fun q1 => absurd q1 (by exact hna)) (fun _ => ?_)
    refine rn_subg (lv' := [(7, .int (nI 0)), (6, .int (nI a)), (5, .int t), (4, .int b), (3, .ref (i + 14)), (0, .ref (5 * j + 50)), (1, .int (nI s)), (2, .int (nI (i * 2 + e)))]) rfl (lp_src (A := A) hj hs hi he (by decide) ha hb (hA 0 (by decide)) ?_)
    refine rn_iinc (v := 1) dX8_sourceOf_125 rfl (by decide) (by decide) rfl ?_
    refine rn_goto (tgt := 45) dX8_sourceOf_128 rfl ?_
    refine rn_iload dX8_sourceOf_45 rfl ?_
    refine rn_iconst (v := 1) dX8_sourceOf_47 rfl ?_
    refine rn_icmp_gt (tgt := 131) dX8_sourceOf_48 rfl (fun q => absurd q (by decide)) (fun _ => ?_)
    refine rn_iload dX8_sourceOf_51 rfl ?_
    refine rn_iconst (v := (-1)) dX8_sourceOf_53 rfl ?_
    refine rn_icmp_eq (tgt := 131) dX8_sourceOf_54 rfl (fun q1 => absurd q1 (by exact hna)) (fun _ => ?_)
    refine rn_subg (lv' := [(7, .int (nI 1)), (6, .int (nI a)), (5, .int t), (4, .int (srcS j A (okC S s i e (nI a) 0) (a * 2 + 0) b)), (3, .ref (i + 14)), (0, .ref (5 * j + 50)), (1, .int (nI s)), (2, .int (nI (i * 2 + e)))]) rfl (lp_src (A := A) hj hs hi he (by decide) ha (okB_s hb (hA 0 (by decide))) (hA 1 (by decide)) ?_)
    refine rn_iinc (v := 2) dX8_sourceOf_125 rfl (by decide) (by decide) rfl ?_
    refine rn_goto (tgt := 45) dX8_sourceOf_128 rfl ?_
    refine rn_iload dX8_sourceOf_45 rfl ?_
    refine rn_iconst (v := 1) dX8_sourceOf_47 rfl ?_
    refine rn_icmp_gt (tgt := 131) dX8_sourceOf_48 rfl (fun _ => ?_) (fun q => absurd (by decide) q)
    exact rn_subg rfl K
set_option maxRecDepth 20000 in
theorem c_X8_sourceOf {j s i e : Nat} {A : Nat → Int} (hj : j < 7) (hs : s < 16) (hi : i < 16) (he : e ≤ 1) (hv1 : fe1 S i = -1 ∨ ∃ a, a < 16 ∧ fe1 S i = nI a) (hv2 : fe2 S i = -1 ∨ ∃ a, a < 16 ∧ fe2 S i = nI a) (hA : ∀ v, (v = fe1 S i ∨ v = fe2 S i) → ∀ f, f ≤ 1 → okC S s i e v f = true → v.toNatClampNeg * 2 + f < 32 ∧ sD S (5 * j + 50) (s * 32 + (v.toNatClampNeg * 2 + f)) = dv (A (v.toNatClampNeg * 2 + f)) ∧ dB (A (v.toNatClampNeg * 2 + f))) : Cn l D ad tc L xs mX8_sourceOf 1 27 [.ref (5 * j + 50), .int (nI s), .int (nI (i * 2 + e))] (wd S E, sl) (some (.int (mSrc S j A s i e))) (wd S E, sl) := by
  refine cn_of (lv0 := [(0, .ref (5 * j + 50)), (1, .int (nI s)), (2, .int (nI (i * 2 + e)))]) (by decide +kernel) ⟨_, rfl, rfl⟩ (fun _ => by simp [lg_sl, j_v, Value.category]) (fun _ => rfl) ?_
  have hb0 : okB S j s A (-1) := Or.inl rfl
  have hb1 : okB S j s A (srcS j A (okC S s i e (fe1 S i) 1) ((fe1 S i).toNatClampNeg * 2 + 1) (srcS j A (okC S s i e (fe1 S i) 0) ((fe1 S i).toNatClampNeg * 2 + 0) (-1))) := okB_s (okB_s hb0 (hA _ (Or.inl rfl) 0 (by decide))) (hA _ (Or.inl rfl) 1 (by decide))
  refine rn_aload_n dX8_sourceOf_0 rfl ?_
  refine rn_getfield dX8_sourceOf_1 fo_X8_24 (h_tim (by omega)) rfl ?_
  refine rn_getfield dX8_sourceOf_4 fo_X8_46 h_chip rfl ?_
  refine rn_iload_n dX8_sourceOf_7 rfl ?_
  refine rn_iconst (v := 2) dX8_sourceOf_8 rfl ?_
  refine rn_idiv dX8_sourceOf_9 (by decide) ?_
  rw [show (2 : Int32) = nI 2 by decide, pk_div (by omega) (by decide) (by decide), show (i * 2 + e) / 2 = i by omega]
  refine rn_aaload dX8_sourceOf_10 h_nodes rfl (vp_in_nI (by omega) (by decide)) (refs_at rfl (by omega) (by decide)) ?_
  refine rn_astore_n dX8_sourceOf_11 (by decide) rfl ?_
  refine rn_iconst (v := (-1)) dX8_sourceOf_12 rfl ?_
  refine rn_istore dX8_sourceOf_13 (by decide) rfl ?_
  refine rn_iconst (v := 0) dX8_sourceOf_15 rfl ?_
  refine rn_istore dX8_sourceOf_16 (by decide) rfl ?_
  refine rn_iload dX8_sourceOf_18 rfl ?_
  refine rn_iconst (v := 2) dX8_sourceOf_20 rfl ?_
  refine rn_icmp_ge (tgt := 137) dX8_sourceOf_21 rfl (fun q => absurd q (by decide)) (fun _ => ?_)
  refine rn_iload dX8_sourceOf_24 rfl ?_
  refine rn_if_ne (tgt := 36) dX8_sourceOf_26 rfl (fun q => absurd (by decide) q) (fun _ => ?_)
  refine rn_aload_n dX8_sourceOf_29 rfl ?_
  refine rn_getfield dX8_sourceOf_30 fo_X8_104 (h_node (by omega)) rfl ?_
  refine rn_goto (tgt := 40) dX8_sourceOf_33 rfl ?_
  refine rn_istore dX8_sourceOf_40 (by decide) rfl ?_
  refine rn_iconst (v := 0) dX8_sourceOf_42 rfl ?_
  refine rn_istore dX8_sourceOf_43 (by decide) rfl ?_
  refine rn_subg (lv' := [(7, .int 0), (6, .int (fe1 S i)), (5, .int 0), (4, .int (-1)), (3, .ref (i + 14)), (0, .ref (5 * j + 50)), (1, .int (nI s)), (2, .int (nI (i * 2 + e)))]) rfl (lp_turn (A := A) hj hs hi he hv1 hb0 (hA _ (Or.inl rfl)) ?_)
  refine rn_iinc (v := 1) dX8_sourceOf_131 rfl (by decide) (by decide) rfl ?_
  refine rn_goto (tgt := 18) dX8_sourceOf_134 rfl ?_
  refine rn_iload dX8_sourceOf_18 rfl ?_
  refine rn_iconst (v := 2) dX8_sourceOf_20 rfl ?_
  refine rn_icmp_ge (tgt := 137) dX8_sourceOf_21 rfl (fun q => absurd q (by decide)) (fun _ => ?_)
  refine rn_iload dX8_sourceOf_24 rfl ?_
  refine rn_if_ne (tgt := 36) dX8_sourceOf_26 rfl (fun _ => ?_) (fun q => absurd q (by decide))
  refine rn_aload_n dX8_sourceOf_36 rfl ?_
  refine rn_getfield dX8_sourceOf_37 fo_X8_107 (h_node (by omega)) rfl ?_
  refine rn_istore dX8_sourceOf_40 (by decide) rfl ?_
  refine rn_iconst (v := 0) dX8_sourceOf_42 rfl ?_
  refine rn_istore dX8_sourceOf_43 (by decide) rfl ?_
  refine rn_subg (lv' := [(7, .int 0), (6, .int (fe2 S i)), (5, .int 1), (4, .int (srcS j A (okC S s i e (fe1 S i) 1) ((fe1 S i).toNatClampNeg * 2 + 1) (srcS j A (okC S s i e (fe1 S i) 0) ((fe1 S i).toNatClampNeg * 2 + 0) (-1)))), (3, .ref (i + 14)), (0, .ref (5 * j + 50)), (1, .int (nI s)), (2, .int (nI (i * 2 + e)))]) rfl (lp_turn (A := A) hj hs hi he hv2 hb1 (hA _ (Or.inr rfl)) ?_)
  refine rn_iinc (v := 2) dX8_sourceOf_131 rfl (by decide) (by decide) rfl ?_
  refine rn_goto (tgt := 18) dX8_sourceOf_134 rfl ?_
  refine rn_iload dX8_sourceOf_18 rfl ?_
  refine rn_iconst (v := 2) dX8_sourceOf_20 rfl ?_
  refine rn_icmp_ge (tgt := 137) dX8_sourceOf_21 rfl (fun _ => ?_) (fun q => absurd (by decide) q)
  refine rn_iload dX8_sourceOf_137 rfl ?_
  exact rn_ret dX8_sourceOf_139 trivial rfl
end T3
end
section
/-! Timing: what is left, before a latch lends -/
def xq (lg k : Nat) : Int := (lg : Int) * k
theorem xq_r {lg k : Nat} (h1 : lg ≤ 120) (h2 : k ≤ 16) : 0 ≤ xq lg k ∧ xq lg k ≤ 1920 := by
  unfold xq
  have y1 := Int.mul_nonneg (a := (lg : Int)) (b := (k : Int)) (by omega) (by omega)
  have y2 := Int.mul_le_mul (a := (lg : Int)) (b := (k : Int)) (c := 120) (d := 16) (by omega) (by omega) (by omega) (by omega)
  omega
def lfLate (isOut : Bool) (gp un lgs lge kl ke : Nat) (cr p0 p1 : Int) : Int := gp * 4096 - 1024 * un - (if isOut = true then 0 else 4096) + 128 * xq lge ke - 128 * xq lgs kl + cr - max p0 p1
def lfEarly (isOut : Bool) (un lgs lge kl ke : Nat) (cr p0 p1 : Int) : Int := min p0 p1 + 128 * xq lgs ke - 128 * xq lge kl - 1024 * un - (if isOut = true then 0 else 2048) + cr
section T4
variable {l : Launch} {D : va_G} {ad : Nat → Nat} {tc : Nat → ClassId} {L : Nat} {xs : Nat → Int32} {S : jS} {E : List j_C} {sl x : Nat}
set_option maxRecDepth 20000 in
theorem c_X8_leftForLate {gp j s e c kl ke la sa lb sb un a : Nat} {p0 p1 : Int} (hj : j < 7) (hs : s < 16) (he : e < 16) (hc : c < 3) (hv : ∀ i, i < 16 → sV S i < 4) (hkl : sD S (c + 10) 0 = dv (512 * kl)) (hke : sD S (c + 10) 1 = dv (512 * ke)) (hl1 : kl ≤ 16) (hk1 : ke ≤ kl) (hla : sI S (sV S s + 6) 1 = nI la) (hlb : sI S (sV S e + 6) 1 = nI lb) (hsa : sI S (s + 13) 7 = nI sa) (hsb : sI S (e + 13) 7 = nI sb) (hun : sI S (sV S e + 6) 2 = nI un) (h1 : la ≤ 100) (h2 : lb ≤ 100) (h3 : sa ≤ 20) (h4 : sb ≤ 20) (h5 : un ≤ 20) (ha : a < 16) (hfe : fe1 S e = nI a) (hp0 : sD S (5 * j + 50) (s * 32 + a * 2 + 0) = dv p0) (hp1 : sD S (5 * j + 50) (s * 32 + a * 2 + 1) = dv p1) (q0 : 0 ≤ p0) (q00 : p0 ≤ 100000000) (q1' : 0 ≤ p1) (q11 : p1 ≤ 100000000) (hgp : sA S 42 (s * 16 + e) = nI gp) (h6 : gp ≤ 1000) : Cn l D ad tc L xs mX8_leftForLate 1 23 [.ref (5 * j + 50), .int (nI s), .int (nI e), .ref (c + 11)] (wd S E, sl) (some (.double (dv (lfLate (decide (kd S e = 8)) gp un (la + sa) (lb + sb) kl ke (mCr kl ke la lb (decide (sI S (sV S s + 6) 4 = sI S (sV S e + 6) 4))) p0 p1)))) (wd S E, sl) := by
  refine cn_of (lv0 := [(0, .ref (5 * j + 50)), (1, .int (nI s)), (2, .int (nI e)), (3, .ref (c + 11))]) (by decide +kernel) rfl (fun _ => by simp [lg_sl, j_v, Value.category]) (fun _ => rfl) ?_
  have hvs := hv s hs
  have hve := hv e he
  have x1 := xq_r (lg := la + sa) (k := ke) (by omega) (by omega)
  have x2 := xq_r (lg := la + sa) (k := kl) (by omega) (by omega)
  have x3 := xq_r (lg := lb + sb) (k := ke) (by omega) (by omega)
  have x4 := xq_r (lg := lb + sb) (k := kl) (by omega) (by omega)
  have x5 := mCr_r (kl := kl) (ke := ke) (a := la) (b := lb) (same := decide (sI S (sV S s + 6) 4 = sI S (sV S e + 6) 4)) hl1 hk1 h1
  refine rn_aload_n dX8_leftForLate_0 rfl ?_
  refine rn_getfield dX8_leftForLate_1 fo_X8_24 (h_tim (by omega)) rfl ?_
  refine rn_getfield dX8_leftForLate_4 fo_X8_46 h_chip rfl ?_
  refine rn_iload_n dX8_leftForLate_7 rfl ?_
  refine rn_aaload dX8_leftForLate_8 h_nodes rfl (vp_in_nI (by omega) (by decide)) (refs_at rfl (by omega) (by decide)) ?_
  refine rn_astore dX8_leftForLate_9 (by decide) rfl ?_
  refine rn_aload_n dX8_leftForLate_11 rfl ?_
  refine rn_getfield dX8_leftForLate_12 fo_X8_24 (h_tim (by omega)) rfl ?_
  refine rn_getfield dX8_leftForLate_15 fo_X8_46 h_chip rfl ?_
  refine rn_iload_n dX8_leftForLate_18 rfl ?_
  refine rn_aaload dX8_leftForLate_19 h_nodes rfl (vp_in_nI (by omega) (by decide)) (refs_at rfl (by omega) (by decide)) ?_
  refine rn_astore dX8_leftForLate_20 (by decide) rfl ?_
  refine rn_aload_n dX8_leftForLate_22 rfl ?_
  refine rn_getfield dX8_leftForLate_23 fo_X8_28 (h_tim (by omega)) rfl ?_
  refine rn_iload_n dX8_leftForLate_26 rfl ?_
  refine rn_iload_n dX8_leftForLate_27 rfl ?_
  refine rn_callV dX8_leftForLate_28 cv_X8_139 (c_X6_gapBetween hs he) rfl h_paths rfl rfl (by decide) (by decide) rfl (Nat.le_of_ble_eq_true rfl) ?_
  refine rn_topi hgp ?_
  refine rn_i2dv dX8_leftForLate_31 ?_
  rw [nI_toInt (by omega)]
  refine rn_dstore dX8_leftForLate_32 (by decide) rfl ?_
  refine rn_dload dX8_leftForLate_34 rfl ?_
  refine rn_aload dX8_leftForLate_36 rfl ?_
  refine rn_getfield dX8_leftForLate_38 fo_X8_142 (h_node (by omega)) rfl ?_
  refine rn_getfield dX8_leftForLate_41 fo_X8_146 (h_clock (by omega)) rfl ?_
  refine rn_topi hun ?_
  refine rn_i2dv dX8_leftForLate_44 ?_
  rw [nI_toInt (by omega)]
  refine rn_dcon (n := 0) (m := 1024) dX8_leftForLate_45 wd_350 (by decide +kernel) ?_
  refine rn_dmulv (c := 1024 * un) dX8_leftForLate_48 (dB_of (by omega) (by omega)) (dB_of (by omega) (by omega)) (by omega) (by omega) (by omega) ?_
  refine rn_dsubv dX8_leftForLate_49 (dB_of (by omega) (by omega)) (dB_of (by omega) (by omega)) ?_
  refine rn_dstore dX8_leftForLate_50 (by decide) rfl ?_
  refine rn_dload dX8_leftForLate_52 rfl ?_
  refine rn_aload dX8_leftForLate_54 rfl ?_
  refine rn_getfield dX8_leftForLate_56 fo_X8_50 (h_node (by omega)) rfl ?_
  refine rn_bipush (v := 8) dX8_leftForLate_59 rfl ?_
  refine rn_icmp_ne (tgt := 68) dX8_leftForLate_61 rfl (fun q1 => ?_) (fun q1 => ?_)
  · refine rn_dcon1 dX8_leftForLate_68 ?_
    refine rn_dsubv dX8_leftForLate_69 (dB_of (by omega) (by omega)) (dB_of (by omega) (by omega)) ?_
    refine rn_dstore dX8_leftForLate_70 (by decide) rfl ?_
    refine rn_dload dX8_leftForLate_72 rfl ?_
    refine rn_aload dX8_leftForLate_74 rfl ?_
    refine rn_callV dX8_leftForLate_76 cv_X8_153 (c_X5_lag he hve hlb hsb h2 h4) rfl (h_node (by omega)) rfl rfl (by decide) (by decide) rfl (Nat.le_of_ble_eq_true rfl) ?_
    refine rn_aload_n dX8_leftForLate_79 rfl ?_
    refine rn_getfield dX8_leftForLate_80 fo_X8_81 (h_corner (by omega)) rfl ?_
    refine rn_topd hke ?_
    refine rn_dmulv (c := 128 * xq (lb + sb) ke) dX8_leftForLate_83 (dB_of (by omega) (by omega)) (dB_of (by omega) (by omega)) (by omega) (by omega) (by unfold xq; grind) ?_
    refine rn_daddv dX8_leftForLate_84 (dB_of (by omega) (by omega)) (dB_of (by omega) (by omega)) ?_
    refine rn_dstore dX8_leftForLate_85 (by decide) rfl ?_
    refine rn_dload dX8_leftForLate_87 rfl ?_
    refine rn_aload dX8_leftForLate_89 rfl ?_
    refine rn_callV dX8_leftForLate_91 cv_X8_153 (c_X5_lag hs hvs hla hsa h1 h3) rfl (h_node (by omega)) rfl rfl (by decide) (by decide) rfl (Nat.le_of_ble_eq_true rfl) ?_
    refine rn_aload_n dX8_leftForLate_94 rfl ?_
    refine rn_getfield dX8_leftForLate_95 fo_X8_75 (h_corner (by omega)) rfl ?_
    refine rn_topd hkl ?_
    refine rn_dmulv (c := 128 * xq (la + sa) kl) dX8_leftForLate_98 (dB_of (by omega) (by omega)) (dB_of (by omega) (by omega)) (by omega) (by omega) (by unfold xq; grind) ?_
    refine rn_dsubv dX8_leftForLate_99 (dB_of (by omega) (by omega)) (dB_of (by omega) (by omega)) ?_
    refine rn_dstore dX8_leftForLate_100 (by decide) rfl ?_
    refine rn_dload dX8_leftForLate_102 rfl ?_
    refine rn_aload dX8_leftForLate_104 rfl ?_
    refine rn_getfield dX8_leftForLate_106 fo_X8_142 (h_node (by omega)) rfl ?_
    refine rn_aload dX8_leftForLate_109 rfl ?_
    refine rn_getfield dX8_leftForLate_111 fo_X8_142 (h_node (by omega)) rfl ?_
    refine rn_aload_n dX8_leftForLate_114 rfl ?_
    refine rn_callS dX8_leftForLate_115 cs_X8_157 (c_X8_credit hvs hve hc hla hlb h1 h2 hkl hke hl1 hk1) rfl (by decide) (by decide) rfl (Nat.le_of_ble_eq_true rfl) ?_
    refine rn_daddv dX8_leftForLate_118 (dB_of (by omega) (by omega)) (dB_of (by omega) (by omega)) ?_
    refine rn_dstore dX8_leftForLate_119 (by decide) rfl ?_
    refine rn_iload_n dX8_leftForLate_121 rfl ?_
    refine rn_bipush (v := nI 32) dX8_leftForLate_122 (by decide) ?_
    refine rn_imul dX8_leftForLate_124 ?_
    refine rn_topi (nI_mul _ _) ?_
    refine rn_aload dX8_leftForLate_125 rfl ?_
    refine rn_getfield dX8_leftForLate_127 fo_X8_104 (h_node (by omega)) rfl ?_
    refine rn_topi hfe ?_
    refine rn_iconst (v := nI 2) dX8_leftForLate_130 (by decide) ?_
    refine rn_imul dX8_leftForLate_131 ?_
    refine rn_topi (nI_mul _ _) ?_
    refine rn_iadd dX8_leftForLate_132 ?_
    refine rn_topi (nI_add _ _) ?_
    refine rn_istore dX8_leftForLate_133 (by decide) rfl ?_
    refine rn_dload dX8_leftForLate_135 rfl ?_
    refine rn_aload_n dX8_leftForLate_137 rfl ?_
    refine rn_getfield dX8_leftForLate_138 fo_X8_9 (h_tim (by omega)) rfl ?_
    refine rn_iload dX8_leftForLate_141 rfl ?_
    refine rn_iconst (v := nI 0) dX8_leftForLate_143 (by decide) ?_
    refine rn_iadd dX8_leftForLate_144 ?_
    refine rn_topi (nI_add _ _) ?_
    refine rn_daload dX8_leftForLate_145 (h_arr (by omega)) rfl (vp_in_nI (by omega) (by decide)) ?_
    rw [nI_clamp (by omega)]
    rw [hp0]
    refine rn_aload_n dX8_leftForLate_146 rfl ?_
    refine rn_getfield dX8_leftForLate_147 fo_X8_9 (h_tim (by omega)) rfl ?_
    refine rn_iload dX8_leftForLate_150 rfl ?_
    refine rn_iconst (v := nI 1) dX8_leftForLate_152 (by decide) ?_
    refine rn_iadd dX8_leftForLate_153 ?_
    refine rn_topi (nI_add _ _) ?_
    refine rn_daload dX8_leftForLate_154 (h_arr (by omega)) rfl (vp_in_nI (by omega) (by decide)) ?_
    rw [nI_clamp (by omega)]
    rw [hp1]
    refine rn_callSN dX8_leftForLate_155 csn_X8_161 (c_X9_greater (dB_of (by omega) (by omega)) (dB_of (by omega) (by omega))) rfl (by decide) (by decide) rfl (Nat.le_of_ble_eq_true rfl) ?_
    refine rn_dsubv dX8_leftForLate_158 (dB_of (by omega) (by omega)) (dB_of (by omega) (by omega)) ?_
    exact rn_ret dX8_leftForLate_159 trivial (by replace q1 : ¬ kd S e = 8 := q1; unfold lfLate; rw [if_neg (by simpa using q1)]; rfl)
  · refine rn_dcon0 dX8_leftForLate_64 ?_
    refine rn_goto (tgt := 69) dX8_leftForLate_65 rfl ?_
    refine rn_dsubv dX8_leftForLate_69 (dB_of (by omega) (by omega)) (dB_of (by omega) (by omega)) ?_
    refine rn_dstore dX8_leftForLate_70 (by decide) rfl ?_
    refine rn_dload dX8_leftForLate_72 rfl ?_
    refine rn_aload dX8_leftForLate_74 rfl ?_
    refine rn_callV dX8_leftForLate_76 cv_X8_153 (c_X5_lag he hve hlb hsb h2 h4) rfl (h_node (by omega)) rfl rfl (by decide) (by decide) rfl (Nat.le_of_ble_eq_true rfl) ?_
    refine rn_aload_n dX8_leftForLate_79 rfl ?_
    refine rn_getfield dX8_leftForLate_80 fo_X8_81 (h_corner (by omega)) rfl ?_
    refine rn_topd hke ?_
    refine rn_dmulv (c := 128 * xq (lb + sb) ke) dX8_leftForLate_83 (dB_of (by omega) (by omega)) (dB_of (by omega) (by omega)) (by omega) (by omega) (by unfold xq; grind) ?_
    refine rn_daddv dX8_leftForLate_84 (dB_of (by omega) (by omega)) (dB_of (by omega) (by omega)) ?_
    refine rn_dstore dX8_leftForLate_85 (by decide) rfl ?_
    refine rn_dload dX8_leftForLate_87 rfl ?_
    refine rn_aload dX8_leftForLate_89 rfl ?_
    refine rn_callV dX8_leftForLate_91 cv_X8_153 (c_X5_lag hs hvs hla hsa h1 h3) rfl (h_node (by omega)) rfl rfl (by decide) (by decide) rfl (Nat.le_of_ble_eq_true rfl) ?_
    refine rn_aload_n dX8_leftForLate_94 rfl ?_
    refine rn_getfield dX8_leftForLate_95 fo_X8_75 (h_corner (by omega)) rfl ?_
    refine rn_topd hkl ?_
    refine rn_dmulv (c := 128 * xq (la + sa) kl) dX8_leftForLate_98 (dB_of (by omega) (by omega)) (dB_of (by omega) (by omega)) (by omega) (by omega) (by unfold xq; grind) ?_
    refine rn_dsubv dX8_leftForLate_99 (dB_of (by omega) (by omega)) (dB_of (by omega) (by omega)) ?_
    refine rn_dstore dX8_leftForLate_100 (by decide) rfl ?_
    refine rn_dload dX8_leftForLate_102 rfl ?_
    refine rn_aload dX8_leftForLate_104 rfl ?_
    refine rn_getfield dX8_leftForLate_106 fo_X8_142 (h_node (by omega)) rfl ?_
    refine rn_aload dX8_leftForLate_109 rfl ?_
    refine rn_getfield dX8_leftForLate_111 fo_X8_142 (h_node (by omega)) rfl ?_
    refine rn_aload_n dX8_leftForLate_114 rfl ?_
    refine rn_callS dX8_leftForLate_115 cs_X8_157 (c_X8_credit hvs hve hc hla hlb h1 h2 hkl hke hl1 hk1) rfl (by decide) (by decide) rfl (Nat.le_of_ble_eq_true rfl) ?_
    refine rn_daddv dX8_leftForLate_118 (dB_of (by omega) (by omega)) (dB_of (by omega) (by omega)) ?_
    refine rn_dstore dX8_leftForLate_119 (by decide) rfl ?_
    refine rn_iload_n dX8_leftForLate_121 rfl ?_
    refine rn_bipush (v := nI 32) dX8_leftForLate_122 (by decide) ?_
    refine rn_imul dX8_leftForLate_124 ?_
    refine rn_topi (nI_mul _ _) ?_
    refine rn_aload dX8_leftForLate_125 rfl ?_
    refine rn_getfield dX8_leftForLate_127 fo_X8_104 (h_node (by omega)) rfl ?_
    refine rn_topi hfe ?_
    refine rn_iconst (v := nI 2) dX8_leftForLate_130 (by decide) ?_
    refine rn_imul dX8_leftForLate_131 ?_
    refine rn_topi (nI_mul _ _) ?_
    refine rn_iadd dX8_leftForLate_132 ?_
    refine rn_topi (nI_add _ _) ?_
    refine rn_istore dX8_leftForLate_133 (by decide) rfl ?_
    refine rn_dload dX8_leftForLate_135 rfl ?_
    refine rn_aload_n dX8_leftForLate_137 rfl ?_
    refine rn_getfield dX8_leftForLate_138 fo_X8_9 (h_tim (by omega)) rfl ?_
    refine rn_iload dX8_leftForLate_141 rfl ?_
    refine rn_iconst (v := nI 0) dX8_leftForLate_143 (by decide) ?_
    refine rn_iadd dX8_leftForLate_144 ?_
    refine rn_topi (nI_add _ _) ?_
    refine rn_daload dX8_leftForLate_145 (h_arr (by omega)) rfl (vp_in_nI (by omega) (by decide)) ?_
    rw [nI_clamp (by omega)]
    rw [hp0]
    refine rn_aload_n dX8_leftForLate_146 rfl ?_
    refine rn_getfield dX8_leftForLate_147 fo_X8_9 (h_tim (by omega)) rfl ?_
    refine rn_iload dX8_leftForLate_150 rfl ?_
    refine rn_iconst (v := nI 1) dX8_leftForLate_152 (by decide) ?_
    refine rn_iadd dX8_leftForLate_153 ?_
    refine rn_topi (nI_add _ _) ?_
    refine rn_daload dX8_leftForLate_154 (h_arr (by omega)) rfl (vp_in_nI (by omega) (by decide)) ?_
    rw [nI_clamp (by omega)]
    rw [hp1]
    refine rn_callSN dX8_leftForLate_155 csn_X8_161 (c_X9_greater (dB_of (by omega) (by omega)) (dB_of (by omega) (by omega))) rfl (by decide) (by decide) rfl (Nat.le_of_ble_eq_true rfl) ?_
    refine rn_dsubv dX8_leftForLate_158 (dB_of (by omega) (by omega)) (dB_of (by omega) (by omega)) ?_
    exact rn_ret dX8_leftForLate_159 trivial (by replace q1 : kd S e = 8 := q1; unfold lfLate; rw [if_pos (by simpa using q1)]; rfl)
set_option maxRecDepth 20000 in
theorem c_X8_leftForEarly {j s e c kl ke la sa lb sb un a : Nat} {p0 p1 : Int} (hj : j < 7) (hs : s < 16) (he : e < 16) (hc : c < 3) (hv : ∀ i, i < 16 → sV S i < 4) (hkl : sD S (c + 10) 0 = dv (512 * kl)) (hke : sD S (c + 10) 1 = dv (512 * ke)) (hl1 : kl ≤ 16) (hk1 : ke ≤ kl) (hla : sI S (sV S s + 6) 1 = nI la) (hlb : sI S (sV S e + 6) 1 = nI lb) (hsa : sI S (s + 13) 7 = nI sa) (hsb : sI S (e + 13) 7 = nI sb) (hun : sI S (sV S e + 6) 2 = nI un) (h1 : la ≤ 100) (h2 : lb ≤ 100) (h3 : sa ≤ 20) (h4 : sb ≤ 20) (h5 : un ≤ 20) (ha : a < 16) (hfe : fe1 S e = nI a) (hp0 : sD S (5 * j + 50) (s * 32 + a * 2 + 0) = dv p0) (hp1 : sD S (5 * j + 50) (s * 32 + a * 2 + 1) = dv p1) (q0 : 0 ≤ p0) (q00 : p0 ≤ 100000000) (q1' : 0 ≤ p1) (q11 : p1 ≤ 100000000) : Cn l D ad tc L xs mX8_leftForEarly 1 23 [.ref (5 * j + 50), .int (nI s), .int (nI e), .ref (c + 11)] (wd S E, sl) (some (.double (dv (lfEarly (decide (kd S e = 8)) un (la + sa) (lb + sb) kl ke (mCr kl ke la lb (decide (sI S (sV S s + 6) 4 = sI S (sV S e + 6) 4))) p0 p1)))) (wd S E, sl) := by
  refine cn_of (lv0 := [(0, .ref (5 * j + 50)), (1, .int (nI s)), (2, .int (nI e)), (3, .ref (c + 11))]) (by decide +kernel) rfl (fun _ => by simp [lg_sl, j_v, Value.category]) (fun _ => rfl) ?_
  have hvs := hv s hs
  have hve := hv e he
  have x1 := xq_r (lg := la + sa) (k := ke) (by omega) (by omega)
  have x2 := xq_r (lg := la + sa) (k := kl) (by omega) (by omega)
  have x3 := xq_r (lg := lb + sb) (k := ke) (by omega) (by omega)
  have x4 := xq_r (lg := lb + sb) (k := kl) (by omega) (by omega)
  have x5 := mCr_r (kl := kl) (ke := ke) (a := la) (b := lb) (same := decide (sI S (sV S s + 6) 4 = sI S (sV S e + 6) 4)) hl1 hk1 h1
  refine rn_aload_n dX8_leftForEarly_0 rfl ?_
  refine rn_getfield dX8_leftForEarly_1 fo_X8_24 (h_tim (by omega)) rfl ?_
  refine rn_getfield dX8_leftForEarly_4 fo_X8_46 h_chip rfl ?_
  refine rn_iload_n dX8_leftForEarly_7 rfl ?_
  refine rn_aaload dX8_leftForEarly_8 h_nodes rfl (vp_in_nI (by omega) (by decide)) (refs_at rfl (by omega) (by decide)) ?_
  refine rn_astore dX8_leftForEarly_9 (by decide) rfl ?_
  refine rn_aload_n dX8_leftForEarly_11 rfl ?_
  refine rn_getfield dX8_leftForEarly_12 fo_X8_24 (h_tim (by omega)) rfl ?_
  refine rn_getfield dX8_leftForEarly_15 fo_X8_46 h_chip rfl ?_
  refine rn_iload_n dX8_leftForEarly_18 rfl ?_
  refine rn_aaload dX8_leftForEarly_19 h_nodes rfl (vp_in_nI (by omega) (by decide)) (refs_at rfl (by omega) (by decide)) ?_
  refine rn_astore dX8_leftForEarly_20 (by decide) rfl ?_
  refine rn_iload_n dX8_leftForEarly_22 rfl ?_
  refine rn_bipush (v := nI 32) dX8_leftForEarly_23 (by decide) ?_
  refine rn_imul dX8_leftForEarly_25 ?_
  refine rn_topi (nI_mul _ _) ?_
  refine rn_aload dX8_leftForEarly_26 rfl ?_
  refine rn_getfield dX8_leftForEarly_28 fo_X8_104 (h_node (by omega)) rfl ?_
  refine rn_topi hfe ?_
  refine rn_iconst (v := nI 2) dX8_leftForEarly_31 (by decide) ?_
  refine rn_imul dX8_leftForEarly_32 ?_
  refine rn_topi (nI_mul _ _) ?_
  refine rn_iadd dX8_leftForEarly_33 ?_
  refine rn_topi (nI_add _ _) ?_
  refine rn_istore dX8_leftForEarly_34 (by decide) rfl ?_
  refine rn_aload_n dX8_leftForEarly_36 rfl ?_
  refine rn_getfield dX8_leftForEarly_37 fo_X8_9 (h_tim (by omega)) rfl ?_
  refine rn_iload dX8_leftForEarly_40 rfl ?_
  refine rn_iconst (v := nI 0) dX8_leftForEarly_42 (by decide) ?_
  refine rn_iadd dX8_leftForEarly_43 ?_
  refine rn_topi (nI_add _ _) ?_
  refine rn_daload dX8_leftForEarly_44 (h_arr (by omega)) rfl (vp_in_nI (by omega) (by decide)) ?_
  rw [nI_clamp (by omega)]
  rw [hp0]
  refine rn_aload_n dX8_leftForEarly_45 rfl ?_
  refine rn_getfield dX8_leftForEarly_46 fo_X8_9 (h_tim (by omega)) rfl ?_
  refine rn_iload dX8_leftForEarly_49 rfl ?_
  refine rn_iconst (v := nI 1) dX8_leftForEarly_51 (by decide) ?_
  refine rn_iadd dX8_leftForEarly_52 ?_
  refine rn_topi (nI_add _ _) ?_
  refine rn_daload dX8_leftForEarly_53 (h_arr (by omega)) rfl (vp_in_nI (by omega) (by decide)) ?_
  rw [nI_clamp (by omega)]
  rw [hp1]
  refine rn_callSN dX8_leftForEarly_54 csn_X8_135 (c_X9_smaller (dB_of (by omega) (by omega)) (dB_of (by omega) (by omega))) rfl (by decide) (by decide) rfl (Nat.le_of_ble_eq_true rfl) ?_
  refine rn_dstore dX8_leftForEarly_57 (by decide) rfl ?_
  refine rn_dload dX8_leftForEarly_59 rfl ?_
  refine rn_aload dX8_leftForEarly_61 rfl ?_
  refine rn_callV dX8_leftForEarly_63 cv_X8_153 (c_X5_lag hs hvs hla hsa h1 h3) rfl (h_node (by omega)) rfl rfl (by decide) (by decide) rfl (Nat.le_of_ble_eq_true rfl) ?_
  refine rn_aload_n dX8_leftForEarly_66 rfl ?_
  refine rn_getfield dX8_leftForEarly_67 fo_X8_81 (h_corner (by omega)) rfl ?_
  refine rn_topd hke ?_
  refine rn_dmulv (c := 128 * xq (la + sa) ke) dX8_leftForEarly_70 (dB_of (by omega) (by omega)) (dB_of (by omega) (by omega)) (by omega) (by omega) (by unfold xq; grind) ?_
  refine rn_daddv dX8_leftForEarly_71 (dB_of (by omega) (by omega)) (dB_of (by omega) (by omega)) ?_
  refine rn_dstore dX8_leftForEarly_72 (by decide) rfl ?_
  refine rn_dload dX8_leftForEarly_74 rfl ?_
  refine rn_aload dX8_leftForEarly_76 rfl ?_
  refine rn_callV dX8_leftForEarly_78 cv_X8_153 (c_X5_lag he hve hlb hsb h2 h4) rfl (h_node (by omega)) rfl rfl (by decide) (by decide) rfl (Nat.le_of_ble_eq_true rfl) ?_
  refine rn_aload_n dX8_leftForEarly_81 rfl ?_
  refine rn_getfield dX8_leftForEarly_82 fo_X8_75 (h_corner (by omega)) rfl ?_
  refine rn_topd hkl ?_
  refine rn_dmulv (c := 128 * xq (lb + sb) kl) dX8_leftForEarly_85 (dB_of (by omega) (by omega)) (dB_of (by omega) (by omega)) (by omega) (by omega) (by unfold xq; grind) ?_
  refine rn_dsubv dX8_leftForEarly_86 (dB_of (by omega) (by omega)) (dB_of (by omega) (by omega)) ?_
  refine rn_dstore dX8_leftForEarly_87 (by decide) rfl ?_
  refine rn_dload dX8_leftForEarly_89 rfl ?_
  refine rn_aload dX8_leftForEarly_91 rfl ?_
  refine rn_getfield dX8_leftForEarly_93 fo_X8_142 (h_node (by omega)) rfl ?_
  refine rn_getfield dX8_leftForEarly_96 fo_X8_146 (h_clock (by omega)) rfl ?_
  refine rn_topi hun ?_
  refine rn_i2dv dX8_leftForEarly_99 ?_
  rw [nI_toInt (by omega)]
  refine rn_dcon (n := 0) (m := 1024) dX8_leftForEarly_100 wd_350 (by decide +kernel) ?_
  refine rn_dmulv (c := 1024 * un) dX8_leftForEarly_103 (dB_of (by omega) (by omega)) (dB_of (by omega) (by omega)) (by omega) (by omega) (by omega) ?_
  refine rn_dsubv dX8_leftForEarly_104 (dB_of (by omega) (by omega)) (dB_of (by omega) (by omega)) ?_
  refine rn_dstore dX8_leftForEarly_105 (by decide) rfl ?_
  refine rn_dload dX8_leftForEarly_107 rfl ?_
  refine rn_aload dX8_leftForEarly_109 rfl ?_
  refine rn_getfield dX8_leftForEarly_111 fo_X8_50 (h_node (by omega)) rfl ?_
  refine rn_bipush (v := 8) dX8_leftForEarly_114 rfl ?_
  refine rn_icmp_ne (tgt := 123) dX8_leftForEarly_116 rfl (fun q1 => ?_) (fun q1 => ?_)
  · refine rn_dcon (n := 0) (m := 2048) dX8_leftForEarly_123 wd_360 (by decide +kernel) ?_
    refine rn_dsubv dX8_leftForEarly_126 (dB_of (by omega) (by omega)) (dB_of (by omega) (by omega)) ?_
    refine rn_dstore dX8_leftForEarly_127 (by decide) rfl ?_
    refine rn_dload dX8_leftForEarly_129 rfl ?_
    refine rn_aload dX8_leftForEarly_131 rfl ?_
    refine rn_getfield dX8_leftForEarly_133 fo_X8_142 (h_node (by omega)) rfl ?_
    refine rn_aload dX8_leftForEarly_136 rfl ?_
    refine rn_getfield dX8_leftForEarly_138 fo_X8_142 (h_node (by omega)) rfl ?_
    refine rn_aload_n dX8_leftForEarly_141 rfl ?_
    refine rn_callS dX8_leftForEarly_142 cs_X8_157 (c_X8_credit hvs hve hc hla hlb h1 h2 hkl hke hl1 hk1) rfl (by decide) (by decide) rfl (Nat.le_of_ble_eq_true rfl) ?_
    refine rn_daddv dX8_leftForEarly_145 (dB_of (by omega) (by omega)) (dB_of (by omega) (by omega)) ?_
    exact rn_ret dX8_leftForEarly_146 trivial (by replace q1 : ¬ kd S e = 8 := q1; unfold lfEarly; rw [if_neg (by simpa using q1)]; rfl)
  · refine rn_dcon0 dX8_leftForEarly_119 ?_
    refine rn_goto (tgt := 126) dX8_leftForEarly_120 rfl ?_
    refine rn_dsubv dX8_leftForEarly_126 (dB_of (by omega) (by omega)) (dB_of (by omega) (by omega)) ?_
    refine rn_dstore dX8_leftForEarly_127 (by decide) rfl ?_
    refine rn_dload dX8_leftForEarly_129 rfl ?_
    refine rn_aload dX8_leftForEarly_131 rfl ?_
    refine rn_getfield dX8_leftForEarly_133 fo_X8_142 (h_node (by omega)) rfl ?_
    refine rn_aload dX8_leftForEarly_136 rfl ?_
    refine rn_getfield dX8_leftForEarly_138 fo_X8_142 (h_node (by omega)) rfl ?_
    refine rn_aload_n dX8_leftForEarly_141 rfl ?_
    refine rn_callS dX8_leftForEarly_142 cs_X8_157 (c_X8_credit hvs hve hc hla hlb h1 h2 hkl hke hl1 hk1) rfl (by decide) (by decide) rfl (Nat.le_of_ble_eq_true rfl) ?_
    refine rn_daddv dX8_leftForEarly_145 (dB_of (by omega) (by omega)) (dB_of (by omega) (by omega)) ?_
    exact rn_ret dX8_leftForEarly_146 trivial (by replace q1 : kd S e = 8 := q1; unfold lfEarly; rw [if_pos (by simpa using q1)]; rfl)
set_option maxRecDepth 20000 in
theorem c_X8_leftOf {j s e : Nat} {p : Int} (hj : j < 7) (hs : s < 16) (he : e < 16) (hp : bitR (sA S 40) s e = true → sD S (5 * j + 51) (s * 16 + e) = dv p) : Cn l D ad tc L xs mX8_leftOf 1 22 [.ref (5 * j + 50), .int (nI s), .int (nI e)] (wd S E, sl) (some (.double (dv (if bitR (sA S 40) s e = true then p else 409595904)))) (wd S E, sl) := by
  refine cn_of (lv0 := [(0, .ref (5 * j + 50)), (1, .int (nI s)), (2, .int (nI e))]) (by decide +kernel) rfl (fun _ => by simp [lg_sl, j_v, Value.category]) (fun _ => rfl) ?_
  refine rn_aload_n dX8_leftOf_0 rfl ?_
  refine rn_getfield dX8_leftOf_1 fo_X8_28 (h_tim (by omega)) rfl ?_
  refine rn_iload_n dX8_leftOf_4 rfl ?_
  refine rn_iload_n dX8_leftOf_5 rfl ?_
  refine rn_callV dX8_leftOf_6 cv_X8_117 (c_X6_isChecked he) rfl h_paths rfl rfl (by decide) (by decide) rfl (Nat.le_of_ble_eq_true rfl) ?_
  refine rn_if_eq (tgt := 26) dX8_leftOf_9 rfl (fun q1 => ?_) (fun q1 => ?_)
  · rw [bI_0] at q1
    replace q1 : bitR (sA S 40) s e = false := q1
    refine rn_dcon (n := 0) (m := 409595904) dX8_leftOf_26 wd_339 (by decide +kernel) ?_
    exact rn_ret dX8_leftOf_29 trivial (by rw [if_neg (by rw [q1]; decide)]; rfl)
  · rw [bI_n] at q1
    replace q1 : bitR (sA S 40) s e = true := q1
    refine rn_aload_n dX8_leftOf_12 rfl ?_
    refine rn_getfield dX8_leftOf_13 fo_X8_15 (h_tim (by omega)) rfl ?_
    refine rn_iload_n dX8_leftOf_16 rfl ?_
    refine rn_bipush (v := nI 16) dX8_leftOf_17 (by decide) ?_
    refine rn_imul dX8_leftOf_19 ?_
    refine rn_topi (nI_mul _ _) ?_
    refine rn_iload_n dX8_leftOf_20 rfl ?_
    refine rn_iadd dX8_leftOf_21 ?_
    refine rn_topi (nI_add _ _) ?_
    refine rn_daload dX8_leftOf_22 (h_lefts (by omega)) rfl (vp_in_nI (by omega) (by decide)) ?_
    rw [nI_clamp (by omega)]
    rw [hp q1]
    refine rn_goto (tgt := 29) dX8_leftOf_23 rfl ?_
    exact rn_ret dX8_leftOf_29 trivial (by rw [if_pos q1]; rfl)
set_option maxRecDepth 20000 in
theorem c_X8_arrivalOf {j s i f : Nat} {p : Int} (hj : j < 7) (hs : s < 16) (hi : i < 16) (hf : f ≤ 1) (hp : bitR (sA S 39) s i = true → sD S (5 * j + 50) (s * 32 + i * 2 + f) = dv p) : Cn l D ad tc L xs mX8_arrivalOf 1 22 [.ref (5 * j + 50), .int (nI s), .int (nI i), .int (nI f)] (wd S E, sl) (some (.double (dv (if bitR (sA S 39) s i = true then p else -4096)))) (wd S E, sl) := by
  refine cn_of (lv0 := [(0, .ref (5 * j + 50)), (1, .int (nI s)), (2, .int (nI i)), (3, .int (nI f))]) (by decide +kernel) rfl (fun _ => by simp [lg_sl, j_v, Value.category]) (fun _ => rfl) ?_
  refine rn_aload_n dX8_arrivalOf_0 rfl ?_
  refine rn_getfield dX8_arrivalOf_1 fo_X8_28 (h_tim (by omega)) rfl ?_
  refine rn_iload_n dX8_arrivalOf_4 rfl ?_
  refine rn_iload_n dX8_arrivalOf_5 rfl ?_
  refine rn_callV dX8_arrivalOf_6 cv_X8_94 (c_X6_reaches hi) rfl h_paths rfl rfl (by decide) (by decide) rfl (Nat.le_of_ble_eq_true rfl) ?_
  refine rn_if_eq (tgt := 30) dX8_arrivalOf_9 rfl (fun q1 => ?_) (fun q1 => ?_)
  · rw [bI_0] at q1
    replace q1 : bitR (sA S 39) s i = false := q1
    refine rn_dcon (n := 0) (m := -4096) dX8_arrivalOf_30 wd_364 (by decide +kernel) ?_
    exact rn_ret dX8_arrivalOf_33 trivial (by rw [if_neg (by rw [q1]; decide)]; rfl)
  · rw [bI_n] at q1
    replace q1 : bitR (sA S 39) s i = true := q1
    refine rn_aload_n dX8_arrivalOf_12 rfl ?_
    refine rn_getfield dX8_arrivalOf_13 fo_X8_9 (h_tim (by omega)) rfl ?_
    refine rn_iload_n dX8_arrivalOf_16 rfl ?_
    refine rn_bipush (v := nI 32) dX8_arrivalOf_17 (by decide) ?_
    refine rn_imul dX8_arrivalOf_19 ?_
    refine rn_topi (nI_mul _ _) ?_
    refine rn_iload_n dX8_arrivalOf_20 rfl ?_
    refine rn_iconst (v := nI 2) dX8_arrivalOf_21 (by decide) ?_
    refine rn_imul dX8_arrivalOf_22 ?_
    refine rn_topi (nI_mul _ _) ?_
    refine rn_iadd dX8_arrivalOf_23 ?_
    refine rn_topi (nI_add _ _) ?_
    refine rn_iload_n dX8_arrivalOf_24 rfl ?_
    refine rn_iadd dX8_arrivalOf_25 ?_
    refine rn_topi (nI_add _ _) ?_
    refine rn_daload dX8_arrivalOf_26 (h_arr (by omega)) rfl (vp_in_nI (by omega) (by decide)) ?_
    rw [nI_clamp (by omega)]
    rw [hp q1]
    refine rn_goto (tgt := 33) dX8_arrivalOf_27 rfl ?_
    exact rn_ret dX8_arrivalOf_33 trivial (by rw [if_pos q1]; rfl)
end T4
end
section
/-! Timing: the tables over the whole numbers; depart and pass -/
abbrev TT : Type := (Nat → Int) × (Nat → Int) × (Nat → Int) × (Nat → Int)
def upZ (A : Nat → Int) (k : Nat) (v : Int) : Nat → Int := fun x => if x = k then v else A x
theorem upZ_dv (A : Nat → Int) (k : Nat) (v : Int) : vf_upd (fun i => dv (A i)) k (dv v) = fun i => dv (upZ A k v i) := by
  funext i
  unfold vf_upd upZ
  by_cases h : i = k
  · rw [if_pos h, if_pos h]
  · rw [if_neg h, if_neg h]
/-- the state with the tables t (arrivals, lefts, leasts, borrows) of the timing j -/
def sT (S : jS) (j : Nat) (t : TT) : jS := (S.1, S.2.1, fun a => if a = 5 * j + 50 then (fun i => dv (t.1 i)) else if a = 5 * j + 51 then (fun i => dv (t.2.1 i)) else if a = 5 * j + 52 then (fun i => dv (t.2.2.1 i)) else if a = 5 * j + 53 then (fun i => dv (t.2.2.2 i)) else S.2.2.1 a, S.2.2.2)
theorem sT_a (S : jS) (j : Nat) (t : TT) : (sT S j t).2.2.1 (5 * j + 50) = fun i => dv (t.1 i) := if_pos rfl
theorem sT_l (S : jS) (j : Nat) (t : TT) : (sT S j t).2.2.1 (5 * j + 51) = fun i => dv (t.2.1 i) := by
  show ite _ _ _ = _
  rw [if_neg (by omega), if_pos rfl]
theorem sT_m (S : jS) (j : Nat) (t : TT) : (sT S j t).2.2.1 (5 * j + 52) = fun i => dv (t.2.2.1 i) := by
  show ite _ _ _ = _
  rw [if_neg (by omega), if_neg (by omega), if_pos rfl]
theorem sT_b (S : jS) (j : Nat) (t : TT) : (sT S j t).2.2.1 (5 * j + 53) = fun i => dv (t.2.2.2 i) := by
  show ite _ _ _ = _
  rw [if_neg (by omega), if_neg (by omega), if_neg (by omega), if_pos rfl]
theorem sT_o {S : jS} {j a : Nat} {t : TT} (h : a < 50) : (sT S j t).2.2.1 a = S.2.2.1 a := by
  show ite _ _ _ = _
  rw [if_neg (by omega), if_neg (by omega), if_neg (by omega), if_neg (by omega)]
theorem sT_pA (S : jS) (j : Nat) (A L M B : Nat → Int) (k : Nat) (v : Int) : pD (sT S j (A, L, M, B)) (5 * j + 50) (vf_upd ((sT S j (A, L, M, B)).2.2.1 (5 * j + 50)) k (dv v)) = sT S j (upZ A k v, L, M, B) := by
  rw [sT_a, upZ_dv]
  unfold pD sT
  congr 3
  funext a
  unfold up1
  by_cases h : a = 5 * j + 50
  · simp [h]
  · simp [h]
theorem sT_pL (S : jS) (j : Nat) (A L M B : Nat → Int) (k : Nat) (v : Int) : pD (sT S j (A, L, M, B)) (5 * j + 51) (vf_upd ((sT S j (A, L, M, B)).2.2.1 (5 * j + 51)) k (dv v)) = sT S j (A, upZ L k v, M, B) := by
  rw [sT_l, upZ_dv]
  unfold pD sT
  congr 3
  funext a
  unfold up1
  by_cases h : a = 5 * j + 51
  · simp [h]
  · simp [h]
theorem sT_pM (S : jS) (j : Nat) (A L M B : Nat → Int) (k : Nat) (v : Int) : pD (sT S j (A, L, M, B)) (5 * j + 52) (vf_upd ((sT S j (A, L, M, B)).2.2.1 (5 * j + 52)) k (dv v)) = sT S j (A, L, upZ M k v, B) := by
  rw [sT_m, upZ_dv]
  unfold pD sT
  congr 3
  funext a
  unfold up1
  by_cases h : a = 5 * j + 52
  · simp [h]
  · simp [h]
theorem sT_pB (S : jS) (j : Nat) (A L M B : Nat → Int) (k : Nat) (v : Int) : pD (sT S j (A, L, M, B)) (5 * j + 53) (vf_upd ((sT S j (A, L, M, B)).2.2.1 (5 * j + 53)) k (dv v)) = sT S j (A, L, M, upZ B k v) := by
  rw [sT_b, upZ_dv]
  unfold pD sT
  congr 3
  funext a
  unfold up1
  by_cases h : a = 5 * j + 53
  · simp [h]
  · simp [h]
/-- an arrival at a node is no more than its place allows: of what stands there from before, too -/
def okA (A : Nat → Int) : Prop := ∀ x, 0 ≤ A x ∧ A x ≤ 400000 + (x % 32 / 2 + 1 : Nat) * 1088000
theorem okA_u {A : Nat → Int} {k : Nat} {v : Int} (h : okA A) (h1 : 0 ≤ v) (h2 : v ≤ 400000 + (k % 32 / 2 + 1 : Nat) * 1088000) : okA (upZ A k v) := by
  intro x
  unfold upZ
  by_cases hx : x = k
  · rw [if_pos hx, hx]
    exact ⟨h1, h2⟩
  · rw [if_neg hx]
    exact h x
theorem okA_x {A : Nat → Int} (h : okA A) (x : Nat) : 0 ≤ A x ∧ A x ≤ 18000000 := by
  have := h x
  omega
/-- a start's own arrivals -/
def mDep (A : Nat → Int) (s : Nat) (b d0 d1 : Int) : Nat → Int := upZ (upZ A (s * 32 + s * 2 + 0) (b + d0)) (s * 32 + s * 2 + 1) (b + d1)
def mP1 (S : jS) (j q e : Nat) (d : Int) (s : Nat) (A : Nat → Int) : Nat → Int := if bitR (sA S 39) s q = true ∧ mSrc S j (fun c => A (s * 32 + c)) s q e ≠ -1 then upZ A (s * 32 + (q * 2 + e)) (A (s * 32 + (mSrc S j (fun c => A (s * 32 + c)) s q e).toNatClampNeg) + d) else A
def mPs (S : jS) (j q e : Nat) (d : Int) (A : Nat → Int) : Nat → Nat → Int
  | 0 => A
  | s + 1 => mP1 S j q e d s (mPs S j q e d A s)
def mPass (S : jS) (j q kl ke : Nat) (p : Int) (A : Nat → Int) : Nat → Int := mPs S j q 1 (mDl j kl ke p 1) (mPs S j q 0 (mDl j kl ke p 0) A q) q
theorem srcS_r {j : Nat} {A : Nat → Int} {ok : Bool} {c q : Nat} {b : Int32} (hb : b = -1 ∨ ∃ c, c < 2 * q ∧ b = nI c) (hc : ok = true → c < 2 * q) : srcS j A ok c b = -1 ∨ ∃ k, k < 2 * q ∧ srcS j A ok c b = nI k := by
  unfold srcS
  by_cases h : ok = true ∧ (b = -1 ∨ (if isLateT j = 0 then A c < A b.toNatClampNeg else A b.toNatClampNeg < A c))
  · rw [if_pos h]
    exact Or.inr ⟨c, hc h.1, rfl⟩
  · rw [if_neg h]
    exact hb
theorem okC_r {S : jS} {s i e f q : Nat} {v : Int32} (hf : f ≤ 1) (hq : q ≤ 16) (hv : v = -1 ∨ ∃ a, a < q ∧ v = nI a) (h : okC S s i e v f = true) : v.toNatClampNeg * 2 + f < 2 * q := by
  unfold okC at h
  simp only [Bool.and_eq_true, decide_eq_true_eq] at h
  obtain ⟨a, ha, rfl⟩ := hv.resolve_left h.1.1
  rw [nI_clamp (by omega)]
  omega
theorem mSrc_r {S : jS} {j s i e : Nat} {A : Nat → Int} (hi : i ≤ 16) (h1 : fe1 S i = -1 ∨ ∃ a, a < i ∧ fe1 S i = nI a) (h2 : fe2 S i = -1 ∨ ∃ a, a < i ∧ fe2 S i = nI a) : mSrc S j A s i e = -1 ∨ ∃ c, c < 2 * i ∧ mSrc S j A s i e = nI c := by
  unfold mSrc
  exact srcS_r (srcS_r (srcS_r (srcS_r (Or.inl rfl) (okC_r (f := 0) (by decide) hi h1)) (okC_r (f := 1) (by decide) hi h1)) (okC_r (f := 0) (by decide) hi h2)) (okC_r (f := 1) (by decide) hi h2)
theorem mP1_t {S : jS} {j q e s : Nat} {d : Int} {A : Nat → Int} (h : bitR (sA S 39) s q = true) : (if mSrc S j (fun c => A (s * 32 + c)) s q e ≠ -1 then upZ A (s * 32 + (q * 2 + e)) (A (s * 32 + (mSrc S j (fun c => A (s * 32 + c)) s q e).toNatClampNeg) + d) else A) = mP1 S j q e d s A := by
  unfold mP1
  by_cases hz : mSrc S j (fun c => A (s * 32 + c)) s q e ≠ -1
  · rw [if_pos hz, if_pos ⟨h, hz⟩]
  · rw [if_neg hz, if_neg (fun z => hz z.2)]
theorem mP1_f {S : jS} {j q e s : Nat} {d : Int} {A : Nat → Int} (h : bitR (sA S 39) s q = false) : (if (-1 : Int32) ≠ -1 then upZ A (s * 32 + (q * 2 + e)) (A (s * 32 + (-1 : Int32).toNatClampNeg) + d) else A) = mP1 S j q e d s A := by
  unfold mP1
  rw [if_neg (by decide), if_neg (fun z => by rw [h] at z; exact absurd z.1 (by decide))]
theorem mP1_ok {S : jS} {j q e s : Nat} {d : Int} {A : Nat → Int} (hq : q < 16) (he : e ≤ 1) (h : okA A) (hd : 0 ≤ d ∧ d ≤ 1088000) (h1 : fe1 S q = -1 ∨ ∃ a, a < q ∧ fe1 S q = nI a) (h2 : fe2 S q = -1 ∨ ∃ a, a < q ∧ fe2 S q = nI a) : okA (mP1 S j q e d s A) := by
  unfold mP1
  split
  · next hc =>
    obtain ⟨c, hc1, hc2⟩ := (mSrc_r (j := j) (s := s) (e := e) (A := fun c => A (s * 32 + c)) (by omega) h1 h2).resolve_left hc.2
    rw [hc2, nI_clamp (by omega)]
    have hx := h (s * 32 + c)
    exact okA_u h (by omega) (by omega)
  · exact h
theorem mPs_ok {S : jS} {j q e : Nat} {d : Int} {A : Nat → Int} (hq : q < 16) (he : e ≤ 1) (h : okA A) (hd : 0 ≤ d ∧ d ≤ 1088000) (h1 : fe1 S q = -1 ∨ ∃ a, a < q ∧ fe1 S q = nI a) (h2 : fe2 S q = -1 ∨ ∃ a, a < q ∧ fe2 S q = nI a) : ∀ s, okA (mPs S j q e d A s)
  | 0 => h
  | s + 1 => mP1_ok hq he (mPs_ok hq he h hd h1 h2 s) hd h1 h2
section T5
variable {l : Launch} {D : va_G} {ad : Nat → Nat} {tc : Nat → ClassId} {L : Nat} {xs : Nat → Int32} {S : jS} {E : List j_C} {sl x : Nat}
set_option maxRecDepth 20000 in
theorem lp_dep {j s c kl ke e : Nat} {p : Int} {A LL M BB : Nat → Int} {r : Option Value} {h' : j_H} (hj : j < 7) (hs : s < 16) (hc : c < 3) (hkl : sD S (c + 10) 0 = dv (512 * kl)) (hke : sD S (c + 10) 1 = dv (512 * ke)) (hl1 : kl ≤ 16) (hk1 : ke ≤ kl) (hr : sD S (xT j + 2) s = dv (32 * p)) (hp : 0 ≤ p) (hp2 : p ≤ 17000) (hb : 0 ≤ BB s ∧ BB s ≤ 400000) (he : e ≤ 1)
    (K : Rn l D ad tc L xs mX8_depart 2 45 36 [(3, .int (nI e)), (0, .ref (5 * j + 50)), (1, .int (nI s)), (2, .ref (c + 11))] [] (wd (sT S j (upZ A (s * 32 + s * 2 + e) (BB s + mDl j kl ke p e), LL, M, BB)) E, sl) r h') : Rn l D ad tc L xs mX8_depart 2 45 7 [(3, .int (nI e)), (0, .ref (5 * j + 50)), (1, .int (nI s)), (2, .ref (c + 11))] [] (wd (sT S j (A, LL, M, BB)) E, sl) r h' := by
  have hdl := mDl_r (j := j) (kl := kl) (ke := ke) (e := e) (p := p) hl1 (by omega) hp hp2
  refine rn_aload_n dX8_depart_7 rfl ?_
  refine rn_getfield dX8_depart_8 fo_X8_9 (h_tim (by omega)) rfl ?_
  refine rn_iload_n dX8_depart_11 rfl ?_
  refine rn_bipush (v := nI 32) dX8_depart_12 (by decide) ?_
  refine rn_imul dX8_depart_14 ?_
  refine rn_topi (nI_mul _ _) ?_
  refine rn_iload_n dX8_depart_15 rfl ?_
  refine rn_iconst (v := nI 2) dX8_depart_16 (by decide) ?_
  refine rn_imul dX8_depart_17 ?_
  refine rn_topi (nI_mul _ _) ?_
  refine rn_iadd dX8_depart_18 ?_
  refine rn_topi (nI_add _ _) ?_
  refine rn_iload_n dX8_depart_19 rfl ?_
  refine rn_iadd dX8_depart_20 ?_
  refine rn_topi (nI_add _ _) ?_
  refine rn_aload_n dX8_depart_21 rfl ?_
  refine rn_getfield dX8_depart_22 fo_X8_21 (h_tim (by omega)) rfl ?_
  refine rn_iload_n dX8_depart_25 rfl ?_
  refine rn_daload dX8_depart_26 (h_borrows (by omega)) rfl (vp_in_nI (by omega) (by decide)) ?_
  rw [nI_clamp (by omega)]
  rw [show sD (sT S j (A, LL, M, BB)) (5 * j + 53) s = dv (BB s) from congrFun (sT_b _ _ _) s]
  refine rn_aload_n dX8_depart_27 rfl ?_
  refine rn_iload_n dX8_depart_28 rfl ?_
  refine rn_iload_n dX8_depart_29 rfl ?_
  refine rn_aload_n dX8_depart_30 rfl ?_
  refine rn_callV dX8_depart_31 cv_X8_90 (c_X8_delayOf (S := sT S j (_, _, _, _)) hj (by omega) (by omega) hc ((congrFun (sT_o (by omega)) 0).trans hkl) ((congrFun (sT_o (by omega)) 1).trans hke) hl1 (by omega) ((congrFun (sT_o (by rcases xT_x j with h | h <;> omega)) _).trans hr) hp hp2) rfl (h_tim (by omega)) rfl rfl (by decide) (by decide) rfl (Nat.le_of_ble_eq_true rfl) ?_
  refine rn_daddv dX8_depart_34 (dB_of (by omega) (by omega)) (dB_of (by omega) (by omega)) ?_
  refine rn_pD (a := 5 * _ + 50) dX8_depart_35 (by omega) cc_arr pD_arr (vp_in_nI (by omega) (by decide)) ?_
  rw [nI_clamp (by omega)]
  refine rn_eq (congrArg (fun z => (wd z E, sl)) (sT_pA S j A LL M BB _ _)) ?_
  exact rn_subg rfl K
set_option maxRecDepth 20000 in
theorem c_X8_depart {j s c kl ke : Nat} {p : Int} {A LL M BB : Nat → Int} (hj : j < 7) (hs : s < 16) (hc : c < 3) (hkl : sD S (c + 10) 0 = dv (512 * kl)) (hke : sD S (c + 10) 1 = dv (512 * ke)) (hl1 : kl ≤ 16) (hk1 : ke ≤ kl) (hr : sD S (xT j + 2) s = dv (32 * p)) (hp : 0 ≤ p) (hp2 : p ≤ 17000) (hb : 0 ≤ BB s ∧ BB s ≤ 400000) : Cn l D ad tc L xs mX8_depart 2 45 [.ref (5 * j + 50), .int (nI s), .ref (c + 11)] (wd (sT S j (A, LL, M, BB)) E, sl) none (wd (sT S j (mDep A s (BB s) (mDl j kl ke p 0) (mDl j kl ke p 1), LL, M, BB)) E, sl) := by
  refine cn_of (lv0 := [(0, .ref (5 * j + 50)), (1, .int (nI s)), (2, .ref (c + 11))]) (by decide +kernel) rfl (fun _ => by simp [lg_sl, j_v, Value.category]) (fun _ => rfl) ?_
  refine rn_iconst (v := 0) dX8_depart_0 rfl ?_
  refine rn_istore_n dX8_depart_1 (by decide) rfl ?_
  refine rn_iload_n dX8_depart_2 rfl ?_
  refine rn_iconst (v := 1) dX8_depart_3 rfl ?_
  refine rn_icmp_gt (tgt := 42) dX8_depart_4 rfl (fun q => absurd q (by decide)) (fun _ => ?_)
  refine rn_subg (lv' := [(3, .int (nI 0)), (0, .ref (5 * j + 50)), (1, .int (nI s)), (2, .ref (c + 11))]) rfl (lp_dep hj hs hc hkl hke hl1 hk1 hr hp hp2 hb (by decide) ?_)
  refine rn_iinc (v := 1) dX8_depart_36 rfl (by decide) (by decide) rfl ?_
  refine rn_goto (tgt := 2) dX8_depart_39 rfl ?_
  refine rn_iload_n dX8_depart_2 rfl ?_
  refine rn_iconst (v := 1) dX8_depart_3 rfl ?_
  refine rn_icmp_gt (tgt := 42) dX8_depart_4 rfl (fun q => absurd q (by decide)) (fun _ => ?_)
  refine rn_subg (lv' := [(3, .int (nI 1)), (0, .ref (5 * j + 50)), (1, .int (nI s)), (2, .ref (c + 11))]) rfl (lp_dep hj hs hc hkl hke hl1 hk1 hr hp hp2 hb (by decide) ?_)
  refine rn_iinc (v := 2) dX8_depart_36 rfl (by decide) (by decide) rfl ?_
  refine rn_goto (tgt := 2) dX8_depart_39 rfl ?_
  refine rn_iload_n dX8_depart_2 rfl ?_
  refine rn_iconst (v := 1) dX8_depart_3 rfl ?_
  refine rn_icmp_gt (tgt := 42) dX8_depart_4 rfl (fun _ => ?_) (fun q => absurd (by decide) q)
  exact rn_ret dX8_depart_42 trivial rfl
set_option maxRecDepth 20000 in
theorem lp_passB {j q s c e : Nat} {d : Int} {v : Int32} {A LL M BB : Nat → Int} {r : Option Value} {h' : j_H} (hj : j < 7) (hs : s < 16) (hq : q < 16) (he : e ≤ 1) (hA : okA A) (hd : 0 ≤ d ∧ d ≤ 1088000) (hv : v = -1 ∨ ∃ c, c < 2 * q ∧ v = nI c)
    (K : Rn l D ad tc L xs mX8_pass 2 56 26 [(7, .int (nI (s + 1))), (5, .double (dv d)), (4, .int (nI (q * 2 + e))), (3, .int (nI e)), (0, .ref (5 * j + 50)), (1, .int (nI q)), (2, .ref (c + 11))] [] (wd (sT S j (if v ≠ -1 then upZ A (s * 32 + (q * 2 + e)) (A (s * 32 + v.toNatClampNeg) + d) else A, LL, M, BB)) E, sl) r h') : Rn l D ad tc L xs mX8_pass 2 56 59 [(8, .int v), (7, .int (nI s)), (5, .double (dv d)), (4, .int (nI (q * 2 + e))), (3, .int (nI e)), (0, .ref (5 * j + 50)), (1, .int (nI q)), (2, .ref (c + 11))] [] (wd (sT S j (A, LL, M, BB)) E, sl) r h' := by
  rcases hv with rfl | ⟨cc0, hc0, rfl⟩
  · rw [if_neg (by decide)] at K
    refine rn_iload dX8_pass_59 rfl ?_
    refine rn_iconst (v := (-1)) dX8_pass_61 rfl ?_
    refine rn_icmp_eq (tgt := 94) dX8_pass_62 rfl (fun _ => ?_) (fun q1 => absurd (by rfl) q1)
    refine rn_iinc dX8_pass_94 rfl (nI_1 _) (by decide) rfl ?_
    refine rn_goto (tgt := 26) dX8_pass_97 rfl ?_
    exact rn_subg rfl K
  · have hv0 : nI cc0 ≠ -1 := fun z => by
      have := congrArg Int32.toInt z
      rw [nI_toInt (by omega), show (-1 : Int32).toInt = -1 by decide] at this
      omega
    rw [if_pos hv0, nI_clamp (by omega)] at K
    have hx := okA_x hA (s * 32 + cc0)
    refine rn_iload dX8_pass_59 rfl ?_
    refine rn_iconst (v := (-1)) dX8_pass_61 rfl ?_
    refine rn_icmp_eq (tgt := 94) dX8_pass_62 rfl (fun q1 => absurd q1 (by exact hv0)) (fun _ => ?_)
    refine rn_aload_n dX8_pass_65 rfl ?_
    refine rn_getfield dX8_pass_66 fo_X8_9 (h_tim (by omega)) rfl ?_
    refine rn_iload dX8_pass_69 rfl ?_
    refine rn_bipush (v := nI 32) dX8_pass_71 (by decide) ?_
    refine rn_imul dX8_pass_73 ?_
    refine rn_topi (nI_mul _ _) ?_
    refine rn_iload dX8_pass_74 rfl ?_
    refine rn_iadd dX8_pass_76 ?_
    refine rn_topi (nI_add _ _) ?_
    refine rn_aload_n dX8_pass_77 rfl ?_
    refine rn_getfield dX8_pass_78 fo_X8_9 (h_tim (by omega)) rfl ?_
    refine rn_iload dX8_pass_81 rfl ?_
    refine rn_bipush (v := nI 32) dX8_pass_83 (by decide) ?_
    refine rn_imul dX8_pass_85 ?_
    refine rn_topi (nI_mul _ _) ?_
    refine rn_iload dX8_pass_86 rfl ?_
    refine rn_iadd dX8_pass_88 ?_
    refine rn_topi (nI_add _ _) ?_
    refine rn_daload dX8_pass_89 (h_arr (by omega)) rfl (vp_in_nI (by omega) (by decide)) ?_
    rw [nI_clamp (by omega)]
    rw [show sD (sT S j (A, LL, M, BB)) (5 * j + 50) (s * 32 + cc0) = dv (A (s * 32 + cc0)) from congrFun (sT_a _ _ _) _]
    refine rn_dload dX8_pass_90 rfl ?_
    refine rn_daddv dX8_pass_92 (dB_of (by omega) (by omega)) (dB_of (by omega) (by omega)) ?_
    refine rn_pD (a := 5 * _ + 50) dX8_pass_93 (by omega) cc_arr pD_arr (vp_in_nI (by omega) (by decide)) ?_
    rw [nI_clamp (by omega)]
    refine rn_eq (congrArg (fun z => (wd z E, sl)) (sT_pA S j A LL M BB _ _)) ?_
    refine rn_iinc dX8_pass_94 rfl (nI_1 _) (by decide) rfl ?_
    refine rn_goto (tgt := 26) dX8_pass_97 rfl ?_
    exact rn_subg rfl K
set_option maxRecDepth 20000 in
theorem lp_passI {j q c e : Nat} {d : Int} {A LL M BB : Nat → Int} {r : Option Value} {h' : j_H} (hj : j < 7) (hq : q < 16) (he : e ≤ 1) (hA : okA A) (hd : 0 ≤ d ∧ d ≤ 1088000) (h1 : fe1 S q = -1 ∨ ∃ a, a < q ∧ fe1 S q = nI a) (h2 : fe2 S q = -1 ∨ ∃ a, a < q ∧ fe2 S q = nI a)
    (K : Rn l D ad tc L xs mX8_pass 2 56 100 [(5, .double (dv d)), (4, .int (nI (q * 2 + e))), (3, .int (nI e)), (0, .ref (5 * j + 50)), (1, .int (nI q)), (2, .ref (c + 11))] [] (wd (sT S j (mPs S j q e d A q, LL, M, BB)) E, sl) r h') : ∀ m s : Nat, s + m = q → Rn l D ad tc L xs mX8_pass 2 56 26 [(7, .int (nI s)), (5, .double (dv d)), (4, .int (nI (q * 2 + e))), (3, .int (nI e)), (0, .ref (5 * j + 50)), (1, .int (nI q)), (2, .ref (c + 11))] [] (wd (sT S j (mPs S j q e d A s, LL, M, BB)) E, sl) r h' := by
  intro m
  induction m with
  | zero =>
    intro s hk
    have hk' : q = s := by omega
    subst hk'
    refine rn_iload dX8_pass_26 rfl ?_
    refine rn_iload_n dX8_pass_28 rfl ?_
    refine rn_icmp_ge (tgt := 100) dX8_pass_29 rfl (fun _ => ?_) (fun q1 => absurd (by exact Int32.le_refl _) q1)
    exact rn_subg rfl K
  | succ m ih =>
    intro s hk
    have ih := ih (s + 1) (by omega)
    have hAo := mPs_ok (j := j) hq he hA hd h1 h2 s
    have hAs : ∀ v, (v = fe1 S q ∨ v = fe2 S q) → ∀ f, f ≤ 1 → okC (sT S j (mPs S j q e d A s, LL, M, BB)) s q e v f = true → v.toNatClampNeg * 2 + f < 32 ∧ sD (sT S j (mPs S j q e d A s, LL, M, BB)) (5 * j + 50) (s * 32 + (v.toNatClampNeg * 2 + f)) = dv (mPs S j q e d A s (s * 32 + (v.toNatClampNeg * 2 + f))) ∧ dB (mPs S j q e d A s (s * 32 + (v.toNatClampNeg * 2 + f))) := by
      intro v hv f hf hk
      have hlt := okC_r (q := q) (s := s) (i := q) (e := e) (S := S) hf (by omega) (by rcases hv with rfl | rfl <;> assumption) hk
      have hx := okA_x hAo (s * 32 + (v.toNatClampNeg * 2 + f))
      exact ⟨by omega, congrFun (sT_a _ _ _) _, (dB_of (by omega) (by omega))⟩
    refine rn_iload dX8_pass_26 rfl ?_
    refine rn_iload_n dX8_pass_28 rfl ?_
    refine rn_icmp_ge (tgt := 100) dX8_pass_29 rfl (fun q1 => absurd q1 (by rw [Int32.le_iff_toInt_le, nI_toInt (by omega), nI_toInt (by omega)] at q1; omega)) (fun _ => ?_)
    refine rn_aload_n dX8_pass_32 rfl ?_
    refine rn_getfield dX8_pass_33 fo_X8_28 (h_tim (by omega)) rfl ?_
    refine rn_iload dX8_pass_36 rfl ?_
    refine rn_iload_n dX8_pass_38 rfl ?_
    refine rn_callV dX8_pass_39 cv_X8_94 (c_X6_reaches (by omega)) rfl h_paths rfl rfl (by decide) (by decide) rfl (Nat.le_of_ble_eq_true rfl) ?_
    refine rn_if_eq (tgt := 56) dX8_pass_42 rfl (fun q2 => ?_) (fun q2 => ?_)
    · rw [bI_0] at q2
      replace q2 : bitR (sA S 39) s q = false := q2
      refine rn_iconst (v := (-1)) dX8_pass_56 rfl ?_
      refine rn_istore dX8_pass_57 (by decide) rfl ?_
      refine rn_subg (lv' := [(8, .int (-1)), (7, .int (nI s)), (5, .double (dv d)), (4, .int (nI (q * 2 + e))), (3, .int (nI e)), (0, .ref (5 * j + 50)), (1, .int (nI q)), (2, .ref (c + 11))]) rfl (lp_passB hj (by omega) (by omega) he hAo hd (Or.inl rfl) ?_)
      refine rn_eq (h2 := (wd (sT S j (mPs S j q e d A (s + 1), LL, M, BB)) E, sl)) (congrArg (fun z => (wd (sT S j (z, LL, M, BB)) E, sl)) (mP1_f (d := d) q2)) ?_
      exact rn_subg rfl ih
    · rw [bI_n] at q2
      replace q2 : bitR (sA S 39) s q = true := q2
      refine rn_aload_n dX8_pass_45 rfl ?_
      refine rn_iload dX8_pass_46 rfl ?_
      refine rn_iload dX8_pass_48 rfl ?_
      refine rn_callV dX8_pass_50 cv_X8_100 (c_X8_sourceOf (S := sT S j (mPs S j q e d A s, LL, M, BB)) (A := fun c => mPs S j q e d A s (s * 32 + c)) hj (by omega) (by omega) he (h1.imp id (fun ⟨a, z⟩ => ⟨a, by omega, z.2⟩)) (h2.imp id (fun ⟨a, z⟩ => ⟨a, by omega, z.2⟩)) hAs) rfl (h_tim (by omega)) rfl rfl (by decide) (by decide) rfl (Nat.le_of_ble_eq_true rfl) ?_
      refine rn_goto (tgt := 57) dX8_pass_53 rfl ?_
      refine rn_istore dX8_pass_57 (by decide) rfl ?_
      refine rn_subg (lv' := [(8, .int (mSrc S j (fun c => mPs S j q e d A s (s * 32 + c)) s q e)), (7, .int (nI s)), (5, .double (dv d)), (4, .int (nI (q * 2 + e))), (3, .int (nI e)), (0, .ref (5 * j + 50)), (1, .int (nI q)), (2, .ref (c + 11))]) rfl (lp_passB hj (by omega) (by omega) he hAo hd (mSrc_r (by omega) h1 h2) ?_)
      refine rn_eq (h2 := (wd (sT S j (mPs S j q e d A (s + 1), LL, M, BB)) E, sl)) (congrArg (fun z => (wd (sT S j (z, LL, M, BB)) E, sl)) (mP1_t (d := d) q2)) ?_
      exact rn_subg rfl ih
set_option maxRecDepth 20000 in
theorem lp_passE {j q c kl ke e : Nat} {p : Int} {A LL M BB : Nat → Int} {r : Option Value} {h' : j_H} (hj : j < 7) (hq : q < 16) (hc : c < 3) (hkl : sD S (c + 10) 0 = dv (512 * kl)) (hke : sD S (c + 10) 1 = dv (512 * ke)) (hl1 : kl ≤ 16) (hk1 : ke ≤ kl) (hr : sD S (xT j + 2) q = dv (32 * p)) (hp : 0 ≤ p) (hp2 : p ≤ 17000) (hA : okA A) (h1 : fe1 S q = -1 ∨ ∃ a, a < q ∧ fe1 S q = nI a) (h2 : fe2 S q = -1 ∨ ∃ a, a < q ∧ fe2 S q = nI a) (he : e ≤ 1)
    (K : Rn l D ad tc L xs mX8_pass 2 56 100 [(5, .double (dv (mDl j kl ke p e))), (4, .int (nI (q * 2 + e))), (3, .int (nI e)), (0, .ref (5 * j + 50)), (1, .int (nI q)), (2, .ref (c + 11))] [] (wd (sT S j (mPs S j q e (mDl j kl ke p e) A q, LL, M, BB)) E, sl) r h') : Rn l D ad tc L xs mX8_pass 2 56 7 [(3, .int (nI e)), (0, .ref (5 * j + 50)), (1, .int (nI q)), (2, .ref (c + 11))] [] (wd (sT S j (A, LL, M, BB)) E, sl) r h' := by
  refine rn_iload_n dX8_pass_7 rfl ?_
  refine rn_iconst (v := nI 2) dX8_pass_8 (by decide) ?_
  refine rn_imul dX8_pass_9 ?_
  refine rn_topi (nI_mul _ _) ?_
  refine rn_iload_n dX8_pass_10 rfl ?_
  refine rn_iadd dX8_pass_11 ?_
  refine rn_topi (nI_add _ _) ?_
  refine rn_istore dX8_pass_12 (by decide) rfl ?_
  refine rn_aload_n dX8_pass_14 rfl ?_
  refine rn_iload_n dX8_pass_15 rfl ?_
  refine rn_iload_n dX8_pass_16 rfl ?_
  refine rn_aload_n dX8_pass_17 rfl ?_
  refine rn_callV dX8_pass_18 cv_X8_90 (c_X8_delayOf (S := sT S j (_, _, _, _)) hj (by omega) (by omega) hc ((congrFun (sT_o (by omega)) 0).trans hkl) ((congrFun (sT_o (by omega)) 1).trans hke) hl1 (by omega) ((congrFun (sT_o (by rcases xT_x j with h | h <;> omega)) _).trans hr) hp hp2) rfl (h_tim (by omega)) rfl rfl (by decide) (by decide) rfl (Nat.le_of_ble_eq_true rfl) ?_
  refine rn_dstore dX8_pass_21 (by decide) rfl ?_
  refine rn_iconst (v := 0) dX8_pass_23 rfl ?_
  refine rn_istore dX8_pass_24 (by decide) rfl ?_
  exact rn_subg rfl (lp_passI hj hq he hA (mDl_r hl1 (by omega) hp hp2) h1 h2 K q 0 (by omega))
set_option maxRecDepth 20000 in
theorem c_X8_pass {j q c kl ke : Nat} {p : Int} {A LL M BB : Nat → Int} (hj : j < 7) (hq : q < 16) (hc : c < 3) (hkl : sD S (c + 10) 0 = dv (512 * kl)) (hke : sD S (c + 10) 1 = dv (512 * ke)) (hl1 : kl ≤ 16) (hk1 : ke ≤ kl) (hr : sD S (xT j + 2) q = dv (32 * p)) (hp : 0 ≤ p) (hp2 : p ≤ 17000) (hA : okA A) (h1 : fe1 S q = -1 ∨ ∃ a, a < q ∧ fe1 S q = nI a) (h2 : fe2 S q = -1 ∨ ∃ a, a < q ∧ fe2 S q = nI a) : Cn l D ad tc L xs mX8_pass 2 56 [.ref (5 * j + 50), .int (nI q), .ref (c + 11)] (wd (sT S j (A, LL, M, BB)) E, sl) none (wd (sT S j (mPass S j q kl ke p A, LL, M, BB)) E, sl) := by
  refine cn_of (lv0 := [(0, .ref (5 * j + 50)), (1, .int (nI q)), (2, .ref (c + 11))]) (by decide +kernel) rfl (fun _ => by simp [lg_sl, j_v, Value.category]) (fun _ => rfl) ?_
  refine rn_iconst (v := 0) dX8_pass_0 rfl ?_
  refine rn_istore_n dX8_pass_1 (by decide) rfl ?_
  refine rn_iload_n dX8_pass_2 rfl ?_
  refine rn_iconst (v := 1) dX8_pass_3 rfl ?_
  refine rn_icmp_gt (tgt := 106) dX8_pass_4 rfl (fun q => absurd q (by decide)) (fun _ => ?_)
  refine rn_subg (lv' := [(3, .int (nI 0)), (0, .ref (5 * j + 50)), (1, .int (nI q)), (2, .ref (c + 11))]) rfl (lp_passE hj hq hc hkl hke hl1 hk1 hr hp hp2 hA h1 h2 (by decide) ?_)
  refine rn_iinc (v := 1) dX8_pass_100 rfl (by decide) (by decide) rfl ?_
  refine rn_goto (tgt := 2) dX8_pass_103 rfl ?_
  refine rn_iload_n dX8_pass_2 rfl ?_
  refine rn_iconst (v := 1) dX8_pass_3 rfl ?_
  refine rn_icmp_gt (tgt := 106) dX8_pass_4 rfl (fun q => absurd q (by decide)) (fun _ => ?_)
  refine rn_subg (lv' := [(3, .int (nI 1)), (0, .ref (5 * j + 50)), (1, .int (nI q)), (2, .ref (c + 11))]) rfl (lp_passE hj hq hc hkl hke hl1 hk1 hr hp hp2 (mPs_ok hq (by decide) hA (mDl_r hl1 (by omega) hp hp2) h1 h2 q) h1 h2 (by decide) ?_)
  refine rn_iinc (v := 2) dX8_pass_100 rfl (by decide) (by decide) rfl ?_
  refine rn_goto (tgt := 2) dX8_pass_103 rfl ?_
  refine rn_iload_n dX8_pass_2 rfl ?_
  refine rn_iconst (v := 1) dX8_pass_3 rfl ?_
  refine rn_icmp_gt (tgt := 106) dX8_pass_4 rfl (fun _ => ?_) (fun q => absurd (by decide) q)
  exact rn_ret dX8_pass_106 trivial rfl
end T5
end
section
/-! Timing: lend and settle -/
theorem nI_self {x : Int32} {b : Nat} (h : ∃ w : Nat, w ≤ b ∧ x = nI w) (hb : b < 2 ^ 31) : x = nI x.toNatClampNeg ∧ x.toNatClampNeg ≤ b := by
  obtain ⟨w, h1, rfl⟩ := h
  rw [nI_clamp (by omega)]
  exact ⟨rfl, h1⟩
def per (S : jS) (v : Nat) : Nat := (sI S (v + 6) 0).toNatClampNeg
def lat (S : jS) (v : Nat) : Nat := (sI S (v + 6) 1).toNatClampNeg
def uns (S : jS) (v : Nat) : Nat := (sI S (v + 6) 2).toNatClampNeg
def skw (S : jS) (i : Nat) : Nat := (sI S (i + 13) 7).toNatClampNeg
def lgn (S : jS) (i : Nat) : Nat := lat S (sV S i) + skw S i
def mCrd (S : jS) (kl ke s e : Nat) : Int := mCr kl ke (lat S (sV S s)) (lat S (sV S e)) (decide (sI S (sV S s + 6) 4 = sI S (sV S e + 6) 4))
/-- what is left at the check from s to e, before a lending -/
def mLf (S : jS) (j kl ke : Nat) (A : Nat → Int) (s e : Nat) : Int := if isLateT j = 0 then lfEarly (decide (kd S e = 8)) (uns S (sV S e)) (lgn S s) (lgn S e) kl ke (mCrd S kl ke s e) (A (s * 32 + (fe1 S e).toNatClampNeg * 2 + 0)) (A (s * 32 + (fe1 S e).toNatClampNeg * 2 + 1)) else lfLate (decide (kd S e = 8)) (sA S 42 (s * 16 + e)).toNatClampNeg (uns S (sV S e)) (lgn S s) (lgn S e) kl ke (mCrd S kl ke s e) (A (s * 32 + (fe1 S e).toNatClampNeg * 2 + 0)) (A (s * 32 + (fe1 S e).toNatClampNeg * 2 + 1))
def CkH (S : jS) (n : Nat) : Prop := ∀ s e, s < n → e < n → bitR (sA S 40) s e = true → (∃ a, a < n ∧ fe1 S e = nI a) ∧ ∃ k : Nat, k ≤ 1000 ∧ sA S 42 (s * 16 + e) = nI k
theorem mCrd_r {S : jS} {n nr nc nk kl ke s e : Nat} (hT : Told S n nr nc nk) (hs : s < 16) (h1 : kl ≤ 16) (h2 : ke ≤ kl) : 0 ≤ mCrd S kl ke s e ∧ mCrd S kl ke s e ≤ 204800 :=
  mCr_r h1 h2 (nI_self ((hT.2.2.2.2.2.2.2.1 _ (hT.2.2.2.2.1 s hs)).2.1) (by decide)).2
theorem lgn_r {S : jS} {n nr nc nk s : Nat} (hT : Told S n nr nc nk) (hs : s < 16) : lgn S s ≤ 120 := by
  have h1 := (nI_self ((hT.2.2.2.2.2.2.2.1 _ (hT.2.2.2.2.1 s hs)).2.1) (by decide)).2
  have h2 := (nI_self ((hT.2.2.2.2.2.2.1 s hs).2.2) (by decide)).2
  unfold lgn lat skw
  omega
def okL (Z : Nat → Int) : Prop := ∀ x, -20000000 ≤ Z x ∧ Z x ≤ 20000000
theorem okL_u {Z : Nat → Int} {k : Nat} {v : Int} (h : okL Z) (h1 : -20000000 ≤ v) (h2 : v ≤ 20000000) : okL (upZ Z k v) := by
  intro x
  unfold upZ
  by_cases hx : x = k
  · rw [if_pos hx]
    exact ⟨h1, h2⟩
  · rw [if_neg hx]
    exact h x
theorem mLf_r {S : jS} {n nr nc nk j kl ke s e : Nat} {A : Nat → Int} (hT : Told S n nr nc nk) (hC : CkH S n) (hA : okA A) (hs : s < n) (he : e < n) (h1 : kl ≤ 16) (h2 : ke ≤ kl) (hb : bitR (sA S 40) s e = true) : -20000000 ≤ mLf S j kl ke A s e ∧ mLf S j kl ke A s e ≤ 20000000 := by
  have hn := hT.1.2
  have c1 := mCrd_r (kl := kl) (ke := ke) (s := s) (e := e) hT (by omega) h1 h2
  have l1 := lgn_r (s := s) hT (by omega)
  have l2 := lgn_r (s := e) hT (by omega)
  have x1 := xq_r (lg := lgn S s) (k := ke) l1 (by omega)
  have x2 := xq_r (lg := lgn S s) (k := kl) l1 (by omega)
  have x3 := xq_r (lg := lgn S e) (k := ke) l2 (by omega)
  have x4 := xq_r (lg := lgn S e) (k := kl) l2 (by omega)
  have u1 : uns S (sV S e) ≤ 20 := (nI_self ((hT.2.2.2.2.2.2.2.1 _ (hT.2.2.2.2.1 e (by omega))).2.2) (by decide)).2
  have a1 := okA_x hA (s * 32 + (fe1 S e).toNatClampNeg * 2 + 0)
  have a2 := okA_x hA (s * 32 + (fe1 S e).toNatClampNeg * 2 + 1)
  have g1 := (nI_self (hC s e hs he hb).2 (by decide)).2
  unfold mLf
  split
  · unfold lfEarly
    split <;> omega
  · unfold lfLate
    split <;> omega
/-- the checks to e of the starts below m are written -/
def mSe (S : jS) (j kl ke e : Nat) (A Z : Nat → Int) : Nat → Nat → Int
  | 0 => Z
  | s + 1 => if bitR (sA S 40) s e = true then upZ (mSe S j kl ke e A Z s) (s * 16 + e) (mLf S j kl ke A s e) else mSe S j kl ke e A Z s
theorem mSe_t {S : jS} {j kl ke e s : Nat} {A Z : Nat → Int} (h : bitR (sA S 40) s e = true) : mSe S j kl ke e A Z (s + 1) = upZ (mSe S j kl ke e A Z s) (s * 16 + e) (mLf S j kl ke A s e) := if_pos h
theorem mSe_f {S : jS} {j kl ke e s : Nat} {A Z : Nat → Int} (h : bitR (sA S 40) s e = false) : mSe S j kl ke e A Z (s + 1) = mSe S j kl ke e A Z s := if_neg (fun z => by rw [h] at z; exact absurd z (by decide))
theorem mSe_ok {S : jS} {n nr nc nk j kl ke e : Nat} {A Z : Nat → Int} (hT : Told S n nr nc nk) (hC : CkH S n) (hA : okA A) (he : e < n) (h1 : kl ≤ 16) (h2 : ke ≤ kl) (hZ : okL Z) : ∀ s, s ≤ n → okL (mSe S j kl ke e A Z s)
  | 0, _ => hZ
  | s + 1, h => by
    have ih := mSe_ok (j := j) hT hC hA he h1 h2 hZ s (by omega)
    cases hb : bitR (sA S 40) s e with
    | false => rw [mSe_f hb]; exact ih
    | true =>
      rw [mSe_t hb]
      have hr := mLf_r (j := j) hT hC hA (show s < n by omega) he h1 h2 hb
      exact okL_u ih hr.1 hr.2
/-- the greatest lack -/
def mLk (S : jS) (e : Nat) (Z : Nat → Int) : Nat → Int
  | 0 => 0
  | s + 1 => if bitR (sA S 40) s e = true then max (mLk S e Z s) (0 - Z (s * 16 + e)) else mLk S e Z s
theorem mLk_t {S : jS} {e s : Nat} {Z : Nat → Int} (h : bitR (sA S 40) s e = true) : mLk S e Z (s + 1) = max (mLk S e Z s) (0 - Z (s * 16 + e)) := if_pos h
theorem mLk_f {S : jS} {e s : Nat} {Z : Nat → Int} (h : bitR (sA S 40) s e = false) : mLk S e Z (s + 1) = mLk S e Z s := if_neg (fun z => by rw [h] at z; exact absurd z (by decide))
theorem mLk_r {S : jS} {e : Nat} {Z : Nat → Int} (hZ : okL Z) : ∀ s, 0 ≤ mLk S e Z s ∧ mLk S e Z s ≤ 20000000
  | 0 => by unfold mLk; omega
  | s + 1 => by
    have ih := mLk_r (e := e) (S := S) hZ s
    have := hZ (s * 16 + e)
    unfold mLk
    split <;> omega
def mBr (S : jS) (n e : Nat) (Z : Nat → Int) : Int := min (mLk S e Z n) (2048 * (per S (sV S e) : Nat))
theorem mBr_r {S : jS} {n nr nc nk e : Nat} {Z : Nat → Int} (hT : Told S n nr nc nk) (he : e < 16) (hZ : okL Z) : 0 ≤ mBr S n e Z ∧ mBr S n e Z ≤ 327680 := by
  have h1 := (nI_self ((hT.2.2.2.2.2.2.2.1 _ (hT.2.2.2.2.1 e he)).1) (by decide)).2
  have h2 := mLk_r (S := S) (e := e) hZ n
  unfold mBr per
  omega
/-- what is left after the lending -/
def mLn (S : jS) (e : Nat) (b : Int) (Z : Nat → Int) : Nat → Nat → Int
  | 0 => Z
  | s + 1 => if bitR (sA S 40) s e = true ∧ mLn S e b Z s (s * 16 + e) < 0 then upZ (mLn S e b Z s) (s * 16 + e) (min (mLn S e b Z s (s * 16 + e) + b) 0) else mLn S e b Z s
theorem mLn_t {S : jS} {e s : Nat} {b : Int} {Z : Nat → Int} (h : bitR (sA S 40) s e = true) (h2 : mLn S e b Z s (s * 16 + e) < 0) : mLn S e b Z (s + 1) = upZ (mLn S e b Z s) (s * 16 + e) (min (mLn S e b Z s (s * 16 + e) + b) 0) := if_pos ⟨h, h2⟩
theorem mLn_f {S : jS} {e s : Nat} {b : Int} {Z : Nat → Int} (h : bitR (sA S 40) s e = false) : mLn S e b Z (s + 1) = mLn S e b Z s := if_neg (fun z => by rw [h] at z; exact absurd z.1 (by decide))
theorem mLn_g {S : jS} {e s : Nat} {b : Int} {Z : Nat → Int} (h : ¬ mLn S e b Z s (s * 16 + e) < 0) : mLn S e b Z (s + 1) = mLn S e b Z s := if_neg (fun z => h z.2)
theorem mLn_ok {S : jS} {e : Nat} {b : Int} {Z : Nat → Int} (hZ : okL Z) (hb : 0 ≤ b) : ∀ s, okL (mLn S e b Z s)
  | 0 => hZ
  | s + 1 => by
    have ih := mLn_ok (S := S) (e := e) hZ hb s
    have := ih (s * 16 + e)
    unfold mLn
    split
    · exact okL_u ih (by omega) (by omega)
    · exact ih
def mLo (S : jS) (e : Nat) (Z : Nat → Int) (s : Nat) : Int := if bitR (sA S 40) s e = true then Z (s * 16 + e) else 409595904
def mLs (S : jS) (e : Nat) (Z : Nat → Int) : Nat → Int
  | 0 => 409595904
  | s + 1 => min (mLs S e Z s) (mLo S e Z s)
theorem mLo_r {S : jS} {e : Nat} {Z : Nat → Int} (hZ : okL Z) (s : Nat) : -20000000 ≤ mLo S e Z s ∧ mLo S e Z s ≤ 409595904 := by
  have := hZ (s * 16 + e)
  unfold mLo
  split <;> omega
theorem mLs_r {S : jS} {e : Nat} {Z : Nat → Int} (hZ : okL Z) : ∀ s, -20000000 ≤ mLs S e Z s ∧ mLs S e Z s ≤ 409595904
  | 0 => by unfold mLs; omega
  | s + 1 => by
    have ih := mLs_r (e := e) (S := S) hZ s
    have := mLo_r (e := e) (S := S) hZ s
    unfold mLs
    omega
theorem upZ_eq (A : Nat → Int) (k : Nat) (v : Int) : upZ A k v k = v := if_pos rfl
theorem upZ_upZ (A : Nat → Int) (k : Nat) (v w : Int) : upZ (upZ A k v) k w = upZ A k w := by
  funext x
  unfold upZ
  by_cases h : x = k
  · rw [if_pos h, if_pos h]
  · rw [if_neg h, if_neg h, if_neg h]
section T6
variable {l : Launch} {D : va_G} {ad : Nat → Nat} {tc : Nat → ClassId} {L : Nat} {xs : Nat → Int32} {S : jS} {E : List j_C} {sl x : Nat}
theorem w_Late {n nr nc nk j c kl ke s e : Nat} {A Z M BB : Nat → Int} (hj : j < 7) (hc : c < 3) (hkl : sD S (c + 10) 0 = dv (512 * kl)) (hke : sD S (c + 10) 1 = dv (512 * ke)) (hl1 : kl ≤ 16) (hk1 : ke ≤ kl) (hT : Told S n nr nc nk) (hC : CkH S n) (hA : okA A) (hs : s < n) (he : e < n) (hb : bitR (sA S 40) s e = true) (hl : ¬ isLateT j = 0) : Cn l D ad tc L xs mX8_leftForLate 1 23 [.ref (5 * j + 50), .int (nI s), .int (nI e), .ref (c + 11)] (wd (sT S j (A, Z, M, BB)) E, sl) (some (.double (dv (mLf S j kl ke A s e)))) (wd (sT S j (A, Z, M, BB)) E, sl) := by
  have hn := hT.1.2
  have hv := hT.2.2.2.2.1
  have hK := hT.2.2.2.2.2.2.2.1
  have hN := hT.2.2.2.2.2.2.1
  have i1 := nI_self ((hK _ (hv s (by omega))).2.1) (by decide)
  have i2 := nI_self ((hK _ (hv e (by omega))).2.1) (by decide)
  have i3 := nI_self ((hK _ (hv e (by omega))).2.2) (by decide)
  have i4 := nI_self ((hN s (by omega)).2.2) (by decide)
  have i5 := nI_self ((hN e (by omega)).2.2) (by decide)
  have hg := nI_self (hC s e hs he hb).2 (by decide)
  have hf : fe1 S e = nI (fe1 S e).toNatClampNeg ∧ (fe1 S e).toNatClampNeg ≤ 15 := nI_self (by obtain ⟨a, ha, hz⟩ := (hC s e hs he hb).1; exact ⟨a, by omega, hz⟩) (by decide)
  have a1 := okA_x hA (s * 32 + (fe1 S e).toNatClampNeg * 2 + 0)
  have a2 := okA_x hA (s * 32 + (fe1 S e).toNatClampNeg * 2 + 1)
  unfold mLf
  rw [if_neg hl]
  exact c_X8_leftForLate (S := sT S j (A, Z, M, BB)) (gp := (sA S 42 (s * 16 + e)).toNatClampNeg) (la := lat S (sV S s)) (lb := lat S (sV S e)) (sa := skw S s) (sb := skw S e) (un := uns S (sV S e)) (a := (fe1 S e).toNatClampNeg) hj (by omega) (by omega) hc hv ((congrFun (sT_o (by omega)) 0).trans hkl) ((congrFun (sT_o (by omega)) 1).trans hke) hl1 hk1 i1.1 i2.1 i4.1 i5.1 i3.1 i1.2 i2.2 i4.2 i5.2 i3.2 (by omega) hf.1 (congrFun (sT_a _ _ _) _) (congrFun (sT_a _ _ _) _) (by omega) (by omega) (by omega) (by omega) hg.1 hg.2
theorem w_Early {n nr nc nk j c kl ke s e : Nat} {A Z M BB : Nat → Int} (hj : j < 7) (hc : c < 3) (hkl : sD S (c + 10) 0 = dv (512 * kl)) (hke : sD S (c + 10) 1 = dv (512 * ke)) (hl1 : kl ≤ 16) (hk1 : ke ≤ kl) (hT : Told S n nr nc nk) (hC : CkH S n) (hA : okA A) (hs : s < n) (he : e < n) (hb : bitR (sA S 40) s e = true) (hl : isLateT j = 0) : Cn l D ad tc L xs mX8_leftForEarly 1 23 [.ref (5 * j + 50), .int (nI s), .int (nI e), .ref (c + 11)] (wd (sT S j (A, Z, M, BB)) E, sl) (some (.double (dv (mLf S j kl ke A s e)))) (wd (sT S j (A, Z, M, BB)) E, sl) := by
  have hn := hT.1.2
  have hv := hT.2.2.2.2.1
  have hK := hT.2.2.2.2.2.2.2.1
  have hN := hT.2.2.2.2.2.2.1
  have i1 := nI_self ((hK _ (hv s (by omega))).2.1) (by decide)
  have i2 := nI_self ((hK _ (hv e (by omega))).2.1) (by decide)
  have i3 := nI_self ((hK _ (hv e (by omega))).2.2) (by decide)
  have i4 := nI_self ((hN s (by omega)).2.2) (by decide)
  have i5 := nI_self ((hN e (by omega)).2.2) (by decide)
  have hg := nI_self (hC s e hs he hb).2 (by decide)
  have hf : fe1 S e = nI (fe1 S e).toNatClampNeg ∧ (fe1 S e).toNatClampNeg ≤ 15 := nI_self (by obtain ⟨a, ha, hz⟩ := (hC s e hs he hb).1; exact ⟨a, by omega, hz⟩) (by decide)
  have a1 := okA_x hA (s * 32 + (fe1 S e).toNatClampNeg * 2 + 0)
  have a2 := okA_x hA (s * 32 + (fe1 S e).toNatClampNeg * 2 + 1)
  unfold mLf
  rw [if_pos hl]
  exact c_X8_leftForEarly (S := sT S j (A, Z, M, BB)) (la := lat S (sV S s)) (lb := lat S (sV S e)) (sa := skw S s) (sb := skw S e) (un := uns S (sV S e)) (a := (fe1 S e).toNatClampNeg) hj (by omega) (by omega) hc hv ((congrFun (sT_o (by omega)) 0).trans hkl) ((congrFun (sT_o (by omega)) 1).trans hke) hl1 hk1 i1.1 i2.1 i4.1 i5.1 i3.1 i1.2 i2.2 i4.2 i5.2 i3.2 (by omega) hf.1 (congrFun (sT_a _ _ _) _) (congrFun (sT_a _ _ _) _) (by omega) (by omega) (by omega) (by omega)
set_option maxRecDepth 20000 in
theorem lp_lend2 {n nr nc nk j e : Nat} {A Z M BB : Nat → Int} (hj : j < 7) (hT : Told S n nr nc nk) (hZ : okL Z) (he : e < n) : ∀ m k : Nat, k + m = n → Rn l D ad tc L xs mX8_lend 1 23 88 [(4, .int (nI k)), (0, .ref (5 * j + 50)), (1, .int (nI e))] [] (wd (sT S j (A, mLn S e (mBr S n e Z) Z k, M, upZ BB e (mBr S n e Z))) E, sl) none (wd (sT S j (A, mLn S e (mBr S n e Z) Z n, M, upZ BB e (mBr S n e Z))) E, sl) := by
  obtain ⟨⟨hN, hn⟩, -, -, -, hv, -, -, hK, -, -⟩ := id hT
  intro m
  induction m with
  | zero =>
    intro k hk
    have hk' : n = k := by omega
    subst hk'
    have hN1 := hN
    refine rn_iload dX8_lend_88 rfl ?_
    refine rn_aload_n dX8_lend_90 rfl ?_
    refine rn_getfield dX8_lend_91 fo_X8_24 (h_tim (by omega)) rfl ?_
    refine rn_getfield dX8_lend_94 fo_X8_40 h_chip rfl ?_
    refine rn_topi hN1 ?_
    refine rn_icmp_ge (tgt := 165) dX8_lend_97 rfl (fun _ => ?_) (fun q1 => absurd (by exact Int32.le_refl _) q1)
    exact rn_ret dX8_lend_165 trivial rfl
  | succ m ih =>
    intro k hk
    have hN1 := hN
    have ih := ih (k + 1) (by omega)
    have KJ : Rn l D ad tc L xs mX8_lend 1 23 159 [(4, .int (nI k)), (0, .ref (5 * j + 50)), (1, .int (nI e))] [] (wd (sT S j (A, mLn S e (mBr S n e Z) Z (k + 1), M, upZ BB e (mBr S n e Z))) E, sl) none (wd (sT S j (A, mLn S e (mBr S n e Z) Z n, M, upZ BB e (mBr S n e Z))) E, sl) := by
      refine rn_iinc dX8_lend_159 rfl (nI_1 _) (by decide) rfl ?_
      refine rn_goto (tgt := 88) dX8_lend_162 rfl ?_
      exact rn_subg rfl ih
    have hbr := mBr_r (n := n) hT (show e < 16 by omega) hZ
    have hln := mLn_ok (S := S) (e := e) hZ hbr.1 k (k * 16 + e)
    have LZ : sD (sT S j (A, mLn S e (mBr S n e Z) Z k, M, upZ BB e (mBr S n e Z))) (5 * j + 51) (k * 16 + e) = dv (mLn S e (mBr S n e Z) Z k (k * 16 + e)) := congrFun (sT_l _ _ _) _
    have LB : sD (sT S j (A, mLn S e (mBr S n e Z) Z k, M, upZ BB e (mBr S n e Z))) (5 * j + 53) e = dv (mBr S n e Z) := (congrFun (sT_b _ _ _) _).trans (congrArg dv (upZ_eq _ _ _))
    refine rn_iload dX8_lend_88 rfl ?_
    refine rn_aload_n dX8_lend_90 rfl ?_
    refine rn_getfield dX8_lend_91 fo_X8_24 (h_tim (by omega)) rfl ?_
    refine rn_getfield dX8_lend_94 fo_X8_40 h_chip rfl ?_
    refine rn_topi hN1 ?_
    refine rn_icmp_ge (tgt := 165) dX8_lend_97 rfl (fun q1 => absurd q1 (by rw [Int32.le_iff_toInt_le, nI_toInt (by omega), nI_toInt (by omega)] at q1; omega)) (fun _ => ?_)
    refine rn_iload dX8_lend_100 rfl ?_
    refine rn_bipush (v := nI 16) dX8_lend_102 (by decide) ?_
    refine rn_imul dX8_lend_104 ?_
    refine rn_topi (nI_mul _ _) ?_
    refine rn_iload_n dX8_lend_105 rfl ?_
    refine rn_iadd dX8_lend_106 ?_
    refine rn_topi (nI_add _ _) ?_
    refine rn_istore dX8_lend_107 (by decide) rfl ?_
    refine rn_aload_n dX8_lend_109 rfl ?_
    refine rn_getfield dX8_lend_110 fo_X8_28 (h_tim (by omega)) rfl ?_
    refine rn_iload dX8_lend_113 rfl ?_
    refine rn_iload_n dX8_lend_115 rfl ?_
    refine rn_callV dX8_lend_116 cv_X8_117 (c_X6_isChecked (by omega)) rfl h_paths rfl rfl (by decide) (by decide) rfl (Nat.le_of_ble_eq_true rfl) ?_
    refine rn_if_eq (tgt := 159) dX8_lend_119 rfl (fun q2 => ?_) (fun q2 => ?_)
    · rw [bI_0] at q2
      have hb0 : bitR (sA S 40) k e = false := q2
      first
        | exact rn_eq (congrArg (fun z => (wd z E, sl)) ((sT_pL S j A _ M _ _ _).trans (congrArg (fun z => sT S j (A, z, M, upZ BB e (mBr S n e Z))) (mLn_t hb0 hz).symm))) (rn_subg rfl KJ)
        | exact rn_eq (congrArg (fun z => (wd (sT S j (A, z, M, upZ BB e (mBr S n e Z))) E, sl)) (mLn_f (b := mBr S n e Z) (Z := Z) hb0).symm) (rn_subg rfl KJ)
        | exact rn_eq (congrArg (fun z => (wd (sT S j (A, z, M, upZ BB e (mBr S n e Z))) E, sl)) (mLn_g hz).symm) (rn_subg rfl KJ)
    · rw [bI_n] at q2
      have hb0 : bitR (sA S 40) k e = true := q2
      refine rn_aload_n dX8_lend_122 rfl ?_
      refine rn_getfield dX8_lend_123 fo_X8_15 (h_tim (by omega)) rfl ?_
      refine rn_iload dX8_lend_126 rfl ?_
      refine rn_daload dX8_lend_128 (h_lefts (by omega)) rfl (vp_in_nI (by omega) (by decide)) ?_
      rw [nI_clamp (by omega)]
      rw [LZ]
      refine rn_dcon0 dX8_lend_129 ?_
      refine rn_dcmpv dX8_lend_130 (dB_of (by omega) (by omega)) (dB_of (by omega) (by omega)) ?_
      refine rn_if_ge (tgt := 159) dX8_lend_131 rfl (fun q3 => ?_) (fun q3 => ?_)
      · have hz : ¬ mLn S e (mBr S n e Z) Z k (k * 16 + e) < 0 := fun z => absurd (cmpI_lt.mpr z) (Int32.not_lt.mpr q3)
        first
          | exact rn_eq (congrArg (fun z => (wd z E, sl)) ((sT_pL S j A _ M _ _ _).trans (congrArg (fun z => sT S j (A, z, M, upZ BB e (mBr S n e Z))) (mLn_t hb0 hz).symm))) (rn_subg rfl KJ)
          | exact rn_eq (congrArg (fun z => (wd (sT S j (A, z, M, upZ BB e (mBr S n e Z))) E, sl)) (mLn_f (b := mBr S n e Z) (Z := Z) hb0).symm) (rn_subg rfl KJ)
          | exact rn_eq (congrArg (fun z => (wd (sT S j (A, z, M, upZ BB e (mBr S n e Z))) E, sl)) (mLn_g hz).symm) (rn_subg rfl KJ)
      · have hz : mLn S e (mBr S n e Z) Z k (k * 16 + e) < 0 := cmpI_lt.mp (Int32.not_le.mp q3)
        refine rn_aload_n dX8_lend_134 rfl ?_
        refine rn_getfield dX8_lend_135 fo_X8_15 (h_tim (by omega)) rfl ?_
        refine rn_iload dX8_lend_138 rfl ?_
        refine rn_aload_n dX8_lend_140 rfl ?_
        refine rn_getfield dX8_lend_141 fo_X8_15 (h_tim (by omega)) rfl ?_
        refine rn_iload dX8_lend_144 rfl ?_
        refine rn_daload dX8_lend_146 (h_lefts (by omega)) rfl (vp_in_nI (by omega) (by decide)) ?_
        rw [nI_clamp (by omega)]
        rw [LZ]
        refine rn_aload_n dX8_lend_147 rfl ?_
        refine rn_getfield dX8_lend_148 fo_X8_21 (h_tim (by omega)) rfl ?_
        refine rn_iload_n dX8_lend_151 rfl ?_
        refine rn_daload dX8_lend_152 (h_borrows (by omega)) rfl (vp_in_nI (by omega) (by decide)) ?_
        rw [nI_clamp (by omega)]
        rw [LB]
        refine rn_daddv dX8_lend_153 (dB_of (by omega) (by omega)) (dB_of (by omega) (by omega)) ?_
        refine rn_dcon0 dX8_lend_154 ?_
        refine rn_callSN dX8_lend_155 csn_X8_135 (c_X9_smaller (dB_of (by omega) (by omega)) (dB_of (by omega) (by omega))) rfl (by decide) (by decide) rfl (Nat.le_of_ble_eq_true rfl) ?_
        refine rn_pD (a := 5 * _ + 51) dX8_lend_158 (by omega) cc_lefts pD_lefts (vp_in_nI (by omega) (by decide)) ?_
        rw [nI_clamp (by omega)]
        first
          | exact rn_eq (congrArg (fun z => (wd z E, sl)) ((sT_pL S j A _ M _ _ _).trans (congrArg (fun z => sT S j (A, z, M, upZ BB e (mBr S n e Z))) (mLn_t hb0 hz).symm))) (rn_subg rfl KJ)
          | exact rn_eq (congrArg (fun z => (wd (sT S j (A, z, M, upZ BB e (mBr S n e Z))) E, sl)) (mLn_f (b := mBr S n e Z) (Z := Z) hb0).symm) (rn_subg rfl KJ)
          | exact rn_eq (congrArg (fun z => (wd (sT S j (A, z, M, upZ BB e (mBr S n e Z))) E, sl)) (mLn_g hz).symm) (rn_subg rfl KJ)
set_option maxRecDepth 20000 in
theorem lp_lend1 {n nr nc nk j e : Nat} {A Z M BB : Nat → Int} (hj : j < 7) (hT : Told S n nr nc nk) (hZ : okL Z) (he : e < n) : ∀ m k : Nat, k + m = n → Rn l D ad tc L xs mX8_lend 1 23 5 [(4, .int (nI k)), (2, .double (dv (mLk S e Z k))), (0, .ref (5 * j + 50)), (1, .int (nI e))] [] (wd (sT S j (A, Z, M, BB)) E, sl) none (wd (sT S j (A, mLn S e (mBr S n e Z) Z n, M, upZ BB e (mBr S n e Z))) E, sl) := by
  obtain ⟨⟨hN, hn⟩, -, -, -, hv, -, -, hK, -, -⟩ := id hT
  intro m
  induction m with
  | zero =>
    intro k hk
    have hk' : n = k := by omega
    subst hk'
    have hpe := nI_self ((hK _ (hv e (by omega))).1) (by decide)
    have hpe' : per S (sV S e) ≤ 160 := hpe.2
    have hlk := mLk_r (S := S) (e := e) hZ n
    have hN1 := hN
    refine rn_iload dX8_lend_5 rfl ?_
    refine rn_aload_n dX8_lend_7 rfl ?_
    refine rn_getfield dX8_lend_8 fo_X8_24 (h_tim (by omega)) rfl ?_
    refine rn_getfield dX8_lend_11 fo_X8_40 h_chip rfl ?_
    refine rn_topi hN1 ?_
    refine rn_icmp_ge (tgt := 55) dX8_lend_14 rfl (fun _ => ?_) (fun q1 => absurd (by exact Int32.le_refl _) q1)
    refine rn_aload_n dX8_lend_55 rfl ?_
    refine rn_getfield dX8_lend_56 fo_X8_21 (h_tim (by omega)) rfl ?_
    refine rn_iload_n dX8_lend_59 rfl ?_
    refine rn_dload_n dX8_lend_60 rfl ?_
    refine rn_dcon (n := 0) (m := 2048) dX8_lend_61 wd_360 (by decide +kernel) ?_
    refine rn_aload_n dX8_lend_64 rfl ?_
    refine rn_getfield dX8_lend_65 fo_X8_24 (h_tim (by omega)) rfl ?_
    refine rn_getfield dX8_lend_68 fo_X8_46 h_chip rfl ?_
    refine rn_iload_n dX8_lend_71 rfl ?_
    refine rn_aaload dX8_lend_72 h_nodes rfl (vp_in_nI (by omega) (by decide)) (refs_at rfl (by omega) (by decide)) ?_
    refine rn_getfield dX8_lend_73 fo_X8_142 (h_node (by omega)) rfl ?_
    refine rn_getfield dX8_lend_76 fo_X8_172 (h_clock (hv e (by omega))) rfl ?_
    refine rn_topi (y := nI (per S (sV S e))) hpe.1 ?_
    refine rn_i2dv dX8_lend_79 ?_
    rw [nI_toInt (by unfold per; omega)]
    refine rn_dmulv (c := 2048 * (per S (sV S e) : Nat)) dX8_lend_80 (dB_of (by omega) (by omega)) (dB_of (by omega) (by omega)) (by omega) (by omega) (by omega) ?_
    refine rn_callSN dX8_lend_81 csn_X8_135 (c_X9_smaller (dB_of (by omega) (by omega)) (dB_of (by omega) (by omega))) rfl (by decide) (by decide) rfl (Nat.le_of_ble_eq_true rfl) ?_
    refine rn_pD (a := 5 * _ + 53) dX8_lend_84 (by omega) cc_borrows pD_borrows (vp_in_nI (by omega) (by decide)) ?_
    rw [nI_clamp (by omega)]
    refine rn_eq (congrArg (fun z => (wd z E, sl)) (sT_pB S j A Z M BB _ _)) ?_
    refine rn_iconst (v := 0) dX8_lend_85 rfl ?_
    refine rn_istore dX8_lend_86 (by decide) rfl ?_
    exact rn_subg rfl (lp_lend2 hj hT hZ he n 0 (by omega))
  | succ m ih =>
    intro k hk
    have hN1 := hN
    have ih := ih (k + 1) (by omega)
    have KJ : Rn l D ad tc L xs mX8_lend 1 23 49 [(4, .int (nI k)), (2, .double (dv (mLk S e Z (k + 1)))), (0, .ref (5 * j + 50)), (1, .int (nI e))] [] (wd (sT S j (A, Z, M, BB)) E, sl) none (wd (sT S j (A, mLn S e (mBr S n e Z) Z n, M, upZ BB e (mBr S n e Z))) E, sl) := by
      refine rn_iinc dX8_lend_49 rfl (nI_1 _) (by decide) rfl ?_
      refine rn_goto (tgt := 5) dX8_lend_52 rfl ?_
      exact rn_subg rfl ih
    have hlk := mLk_r (S := S) (e := e) hZ k
    have hzz := hZ (k * 16 + e)
    have LZ : sD (sT S j (A, Z, M, BB)) (5 * j + 51) (k * 16 + e) = dv (Z (k * 16 + e)) := congrFun (sT_l _ _ _) _
    refine rn_iload dX8_lend_5 rfl ?_
    refine rn_aload_n dX8_lend_7 rfl ?_
    refine rn_getfield dX8_lend_8 fo_X8_24 (h_tim (by omega)) rfl ?_
    refine rn_getfield dX8_lend_11 fo_X8_40 h_chip rfl ?_
    refine rn_topi hN1 ?_
    refine rn_icmp_ge (tgt := 55) dX8_lend_14 rfl (fun q1 => absurd q1 (by rw [Int32.le_iff_toInt_le, nI_toInt (by omega), nI_toInt (by omega)] at q1; omega)) (fun _ => ?_)
    refine rn_aload_n dX8_lend_17 rfl ?_
    refine rn_getfield dX8_lend_18 fo_X8_28 (h_tim (by omega)) rfl ?_
    refine rn_iload dX8_lend_21 rfl ?_
    refine rn_iload_n dX8_lend_23 rfl ?_
    refine rn_callV dX8_lend_24 cv_X8_117 (c_X6_isChecked (by omega)) rfl h_paths rfl rfl (by decide) (by decide) rfl (Nat.le_of_ble_eq_true rfl) ?_
    refine rn_if_eq (tgt := 49) dX8_lend_27 rfl (fun q2 => ?_) (fun q2 => ?_)
    · rw [bI_0] at q2
      have hb0 : bitR (sA S 40) k e = false := q2
      first
        | (rw [mLk_t hb0] at KJ; exact rn_subg rfl KJ)
        | (rw [mLk_f hb0] at KJ; exact rn_subg rfl KJ)
    · rw [bI_n] at q2
      have hb0 : bitR (sA S 40) k e = true := q2
      refine rn_dload_n dX8_lend_30 rfl ?_
      refine rn_dcon0 dX8_lend_31 ?_
      refine rn_aload_n dX8_lend_32 rfl ?_
      refine rn_getfield dX8_lend_33 fo_X8_15 (h_tim (by omega)) rfl ?_
      refine rn_iload dX8_lend_36 rfl ?_
      refine rn_bipush (v := nI 16) dX8_lend_38 (by decide) ?_
      refine rn_imul dX8_lend_40 ?_
      refine rn_topi (nI_mul _ _) ?_
      refine rn_iload_n dX8_lend_41 rfl ?_
      refine rn_iadd dX8_lend_42 ?_
      refine rn_topi (nI_add _ _) ?_
      refine rn_daload dX8_lend_43 (h_lefts (by omega)) rfl (vp_in_nI (by omega) (by decide)) ?_
      rw [nI_clamp (by omega)]
      rw [LZ]
      refine rn_dsubv dX8_lend_44 (dB_of (by omega) (by omega)) (dB_of (by omega) (by omega)) ?_
      refine rn_callSN dX8_lend_45 csn_X8_161 (c_X9_greater (dB_of (by omega) (by omega)) (dB_of (by omega) (by omega))) rfl (by decide) (by decide) rfl (Nat.le_of_ble_eq_true rfl) ?_
      refine rn_dstore_n dX8_lend_48 (by decide) rfl ?_
      first
        | (rw [mLk_t hb0] at KJ; exact rn_subg rfl KJ)
        | (rw [mLk_f hb0] at KJ; exact rn_subg rfl KJ)
set_option maxRecDepth 20000 in
theorem c_X8_lend {n nr nc nk j e : Nat} {A Z M BB : Nat → Int} (hj : j < 7) (hT : Told S n nr nc nk) (hZ : okL Z) (he : e < n) : Cn l D ad tc L xs mX8_lend 1 23 [.ref (5 * j + 50), .int (nI e)] (wd (sT S j (A, Z, M, BB)) E, sl) none (wd (sT S j (A, mLn S e (mBr S n e Z) Z n, M, upZ BB e (mBr S n e Z))) E, sl) := by
  refine cn_of (lv0 := [(0, .ref (5 * j + 50)), (1, .int (nI e))]) (by decide +kernel) rfl (fun _ => by simp [lg_sl, j_v, Value.category]) (fun _ => rfl) ?_
  refine rn_dcon0 dX8_lend_0 ?_
  refine rn_dstore_n dX8_lend_1 (by decide) rfl ?_
  refine rn_iconst (v := 0) dX8_lend_2 rfl ?_
  refine rn_istore dX8_lend_3 (by decide) rfl ?_
  exact rn_subg rfl (lp_lend1 hj hT hZ he n 0 (by omega))
end T6
end
section
/-! Timing: settle -/
def mSettle (S : jS) (j kl ke n e : Nat) (t : TT) : TT := if ¬ isLateT j = 0 ∧ kd S e = 7 then (t.1, mLn S e (mBr S n e (mSe S j kl ke e t.1 t.2.1 n)) (mSe S j kl ke e t.1 t.2.1 n) n, upZ t.2.2.1 e (mLs S e (mLn S e (mBr S n e (mSe S j kl ke e t.1 t.2.1 n)) (mSe S j kl ke e t.1 t.2.1 n) n) n), upZ t.2.2.2 e (mBr S n e (mSe S j kl ke e t.1 t.2.1 n))) else (t.1, mSe S j kl ke e t.1 t.2.1 n, upZ t.2.2.1 e (mLs S e (mSe S j kl ke e t.1 t.2.1 n) n), t.2.2.2)
theorem mSettle_t {S : jS} {j kl ke n e : Nat} {A Z M BB : Nat → Int} (h : ¬ isLateT j = 0) (h2 : kd S e = 7) : mSettle S j kl ke n e (A, Z, M, BB) = (A, mLn S e (mBr S n e (mSe S j kl ke e A Z n)) (mSe S j kl ke e A Z n) n, upZ M e (mLs S e (mLn S e (mBr S n e (mSe S j kl ke e A Z n)) (mSe S j kl ke e A Z n) n) n), upZ BB e (mBr S n e (mSe S j kl ke e A Z n))) := if_pos ⟨h, h2⟩
theorem mSettle_f {S : jS} {j kl ke n e : Nat} {A Z M BB : Nat → Int} (h : isLateT j = 0) : mSettle S j kl ke n e (A, Z, M, BB) = (A, mSe S j kl ke e A Z n, upZ M e (mLs S e (mSe S j kl ke e A Z n) n), BB) := if_neg (fun z => z.1 h)
theorem mSettle_g {S : jS} {j kl ke n e : Nat} {A Z M BB : Nat → Int} (h : ¬ kd S e = 7) : mSettle S j kl ke n e (A, Z, M, BB) = (A, mSe S j kl ke e A Z n, upZ M e (mLs S e (mSe S j kl ke e A Z n) n), BB) := if_neg (fun z => h z.2)
section T7
variable {l : Launch} {D : va_G} {ad : Nat → Nat} {tc : Nat → ClassId} {L : Nat} {xs : Nat → Int32} {S : jS} {E : List j_C} {sl x : Nat}
set_option maxRecDepth 20000 in
theorem lp_set3 {n nr nc nk j c e : Nat} {A Z M BB : Nat → Int} (hj : j < 7) (hT : Told S n nr nc nk) (hZ : okL Z) (he : e < n) : ∀ m k : Nat, k + m = n → Rn l D ad tc L xs mX8_settle 2 51 106 [(3, .int (nI k)), (0, .ref (5 * j + 50)), (1, .int (nI e)), (2, .ref (c + 11))] [] (wd (sT S j (A, Z, upZ M e (mLs S e Z k), BB)) E, sl) none (wd (sT S j (A, Z, upZ M e (mLs S e Z n), BB)) E, sl) := by
  obtain ⟨⟨hN, hn⟩, -, -, -, hv, -, -, hK, -, -⟩ := id hT
  intro m
  induction m with
  | zero =>
    intro k hk
    have hk' : n = k := by omega
    subst hk'
    have hN1 := hN
    refine rn_iload_n dX8_settle_106 rfl ?_
    refine rn_aload_n dX8_settle_107 rfl ?_
    refine rn_getfield dX8_settle_108 fo_X8_24 (h_tim (by omega)) rfl ?_
    refine rn_getfield dX8_settle_111 fo_X8_40 h_chip rfl ?_
    refine rn_topi hN1 ?_
    refine rn_icmp_ge (tgt := 144) dX8_settle_114 rfl (fun _ => ?_) (fun q1 => absurd (by exact Int32.le_refl _) q1)
    exact rn_ret dX8_settle_144 trivial rfl
  | succ m ih =>
    intro k hk
    have hN1 := hN
    have ih := ih (k + 1) (by omega)
    have KJ : Rn l D ad tc L xs mX8_settle 2 51 138 [(3, .int (nI k)), (0, .ref (5 * j + 50)), (1, .int (nI e)), (2, .ref (c + 11))] [] (wd (sT S j (A, Z, upZ M e (mLs S e Z (k + 1)), BB)) E, sl) none (wd (sT S j (A, Z, upZ M e (mLs S e Z n), BB)) E, sl) := by
      refine rn_iinc dX8_settle_138 rfl (nI_1 _) (by decide) rfl ?_
      refine rn_goto (tgt := 106) dX8_settle_141 rfl ?_
      exact rn_subg rfl ih
    have hms := mLs_r (S := S) (e := e) hZ k
    have hlo := mLo_r (S := S) (e := e) hZ k
    have LM : sD (sT S j (A, Z, upZ M e (mLs S e Z k), BB)) (5 * j + 52) e = dv (mLs S e Z k) := (congrFun (sT_m _ _ _) _).trans (congrArg dv (upZ_eq _ _ _))
    refine rn_iload_n dX8_settle_106 rfl ?_
    refine rn_aload_n dX8_settle_107 rfl ?_
    refine rn_getfield dX8_settle_108 fo_X8_24 (h_tim (by omega)) rfl ?_
    refine rn_getfield dX8_settle_111 fo_X8_40 h_chip rfl ?_
    refine rn_topi hN1 ?_
    refine rn_icmp_ge (tgt := 144) dX8_settle_114 rfl (fun q1 => absurd q1 (by rw [Int32.le_iff_toInt_le, nI_toInt (by omega), nI_toInt (by omega)] at q1; omega)) (fun _ => ?_)
    refine rn_aload_n dX8_settle_117 rfl ?_
    refine rn_getfield dX8_settle_118 fo_X8_18 (h_tim (by omega)) rfl ?_
    refine rn_iload_n dX8_settle_121 rfl ?_
    refine rn_aload_n dX8_settle_122 rfl ?_
    refine rn_getfield dX8_settle_123 fo_X8_18 (h_tim (by omega)) rfl ?_
    refine rn_iload_n dX8_settle_126 rfl ?_
    refine rn_daload dX8_settle_127 (h_leasts (by omega)) rfl (vp_in_nI (by omega) (by decide)) ?_
    rw [nI_clamp (by omega)]
    rw [LM]
    refine rn_aload_n dX8_settle_128 rfl ?_
    refine rn_iload_n dX8_settle_129 rfl ?_
    refine rn_iload_n dX8_settle_130 rfl ?_
    refine rn_callV dX8_settle_131 cv_X8_132 (c_X8_leftOf (S := sT S j (A, Z, upZ M e (mLs S e Z k), BB)) (p := Z (k * 16 + e)) hj (by omega) (by omega) (fun _ => congrFun (sT_l _ _ _) _)) rfl (h_tim (by omega)) rfl rfl (by decide) (by decide) rfl (Nat.le_of_ble_eq_true rfl) ?_
    refine rn_topd (y := dv (mLo S e Z k)) rfl ?_
    refine rn_callSN dX8_settle_134 csn_X8_135 (c_X9_smaller (dB_of (by omega) (by omega)) (dB_of (by omega) (by omega))) rfl (by decide) (by decide) rfl (Nat.le_of_ble_eq_true rfl) ?_
    refine rn_pD (a := 5 * _ + 52) dX8_settle_137 (by omega) cc_leasts pD_leasts (vp_in_nI (by omega) (by decide)) ?_
    rw [nI_clamp (by omega)]
    exact rn_eq (congrArg (fun z => (wd z E, sl)) ((sT_pM S j A Z _ BB _ _).trans (congrArg (fun z => sT S j (A, Z, z, BB)) (upZ_upZ M e _ _)))) (rn_subg rfl KJ)
set_option maxRecDepth 20000 in
theorem lp_set95 {n nr nc nk j c e : Nat} {A Z M BB : Nat → Int} (hj : j < 7) (hT : Told S n nr nc nk) (hZ : okL Z) (he : e < n) : Rn l D ad tc L xs mX8_settle 2 51 95 [(0, .ref (5 * j + 50)), (1, .int (nI e)), (2, .ref (c + 11))] [] (wd (sT S j (A, Z, M, BB)) E, sl) none (wd (sT S j (A, Z, upZ M e (mLs S e Z n), BB)) E, sl) := by
  have hn := hT.1.2
  refine rn_aload_n dX8_settle_95 rfl ?_
  refine rn_getfield dX8_settle_96 fo_X8_18 (h_tim (by omega)) rfl ?_
  refine rn_iload_n dX8_settle_99 rfl ?_
  refine rn_dcon (n := 0) (m := 409595904) dX8_settle_100 wd_339 (by decide +kernel) ?_
  refine rn_pD (a := 5 * _ + 52) dX8_settle_103 (by omega) cc_leasts pD_leasts (vp_in_nI (by omega) (by decide)) ?_
  rw [nI_clamp (by omega)]
  refine rn_eq (congrArg (fun z => (wd z E, sl)) (sT_pM S j A Z M BB _ _)) ?_
  refine rn_iconst (v := 0) dX8_settle_104 rfl ?_
  refine rn_istore_n dX8_settle_105 (by decide) rfl ?_
  exact rn_subg rfl (lp_set3 hj hT hZ he n 0 (by omega))
set_option maxRecDepth 20000 in
theorem lp_set1 {n nr nc nk j c kl ke e : Nat} {A Z M BB : Nat → Int} {r : Option Value} {h' : j_H} (hj : j < 7) (hc : c < 3) (hkl : sD S (c + 10) 0 = dv (512 * kl)) (hke : sD S (c + 10) 1 = dv (512 * ke)) (hl1 : kl ≤ 16) (hk1 : ke ≤ kl) (hT : Told S n nr nc nk) (hC : CkH S n) (hA : okA A) (hZ : okL Z) (he : e < n) (K : Rn l D ad tc L xs mX8_settle 2 51 66 [(0, .ref (5 * j + 50)), (1, .int (nI e)), (2, .ref (c + 11))] [] (wd (sT S j (A, mSe S j kl ke e A Z n, M, BB)) E, sl) r h') : ∀ m k : Nat, k + m = n → Rn l D ad tc L xs mX8_settle 2 51 2 [(3, .int (nI k)), (0, .ref (5 * j + 50)), (1, .int (nI e)), (2, .ref (c + 11))] [] (wd (sT S j (A, mSe S j kl ke e A Z k, M, BB)) E, sl) r h' := by
  obtain ⟨⟨hN, hn⟩, -, -, -, hv, -, -, hK, -, -⟩ := id hT
  intro m
  induction m with
  | zero =>
    intro k hk
    have hk' : n = k := by omega
    subst hk'
    have hN1 := hN
    refine rn_iload_n dX8_settle_2 rfl ?_
    refine rn_aload_n dX8_settle_3 rfl ?_
    refine rn_getfield dX8_settle_4 fo_X8_24 (h_tim (by omega)) rfl ?_
    refine rn_getfield dX8_settle_7 fo_X8_40 h_chip rfl ?_
    refine rn_topi hN1 ?_
    refine rn_icmp_ge (tgt := 66) dX8_settle_10 rfl (fun _ => ?_) (fun q1 => absurd (by exact Int32.le_refl _) q1)
    exact rn_subg rfl K
  | succ m ih =>
    intro k hk
    have hN1 := hN
    have ih := ih (k + 1) (by omega)
    have KJ : Rn l D ad tc L xs mX8_settle 2 51 60 [(3, .int (nI k)), (0, .ref (5 * j + 50)), (1, .int (nI e)), (2, .ref (c + 11))] [] (wd (sT S j (A, mSe S j kl ke e A Z (k + 1), M, BB)) E, sl) r h' := by
      refine rn_iinc dX8_settle_60 rfl (nI_1 _) (by decide) rfl ?_
      refine rn_goto (tgt := 2) dX8_settle_63 rfl ?_
      exact rn_subg rfl ih

    refine rn_iload_n dX8_settle_2 rfl ?_
    refine rn_aload_n dX8_settle_3 rfl ?_
    refine rn_getfield dX8_settle_4 fo_X8_24 (h_tim (by omega)) rfl ?_
    refine rn_getfield dX8_settle_7 fo_X8_40 h_chip rfl ?_
    refine rn_topi hN1 ?_
    refine rn_icmp_ge (tgt := 66) dX8_settle_10 rfl (fun q1 => absurd q1 (by rw [Int32.le_iff_toInt_le, nI_toInt (by omega), nI_toInt (by omega)] at q1; omega)) (fun _ => ?_)
    refine rn_aload_n dX8_settle_13 rfl ?_
    refine rn_getfield dX8_settle_14 fo_X8_28 (h_tim (by omega)) rfl ?_
    refine rn_iload_n dX8_settle_17 rfl ?_
    refine rn_iload_n dX8_settle_18 rfl ?_
    refine rn_callV dX8_settle_19 cv_X8_117 (c_X6_isChecked (by omega)) rfl h_paths rfl rfl (by decide) (by decide) rfl (Nat.le_of_ble_eq_true rfl) ?_
    refine rn_if_eq (tgt := 60) dX8_settle_22 rfl (fun q2 => ?_) (fun q2 => ?_)
    · rw [bI_0] at q2
      have hb0 : bitR (sA S 40) k e = false := q2
      first
        | exact rn_eq (congrArg (fun z => (wd z E, sl)) ((sT_pL S j A _ M BB _ _).trans (congrArg (fun z => sT S j (A, z, M, BB)) (mSe_t hb0).symm))) (rn_subg rfl KJ)
        | exact rn_eq (congrArg (fun z => (wd (sT S j (A, z, M, BB)) E, sl)) (mSe_f hb0).symm) (rn_subg rfl KJ)
    · rw [bI_n] at q2
      have hb0 : bitR (sA S 40) k e = true := q2
      refine rn_aload_n dX8_settle_25 rfl ?_
      refine rn_getfield dX8_settle_26 fo_X8_15 (h_tim (by omega)) rfl ?_
      refine rn_iload_n dX8_settle_29 rfl ?_
      refine rn_bipush (v := nI 16) dX8_settle_30 (by decide) ?_
      refine rn_imul dX8_settle_32 ?_
      refine rn_topi (nI_mul _ _) ?_
      refine rn_iload_n dX8_settle_33 rfl ?_
      refine rn_iadd dX8_settle_34 ?_
      refine rn_topi (nI_add _ _) ?_
      refine rn_aload_n dX8_settle_35 rfl ?_
      refine rn_getfield dX8_settle_36 fo_X8_36 (h_tim (by omega)) rfl ?_
      refine rn_if_eq (tgt := 52) dX8_settle_39 rfl (fun q3 => ?_) (fun q3 => ?_)
      · refine rn_aload_n dX8_settle_52 rfl ?_
        refine rn_iload_n dX8_settle_53 rfl ?_
        refine rn_iload_n dX8_settle_54 rfl ?_
        refine rn_aload_n dX8_settle_55 rfl ?_
        refine rn_callV dX8_settle_56 cv_X8_123 (w_Early hj hc hkl hke hl1 hk1 hT hC hA (by omega) he hb0 (by assumption)) rfl (h_tim (by omega)) rfl rfl (by decide) (by decide) rfl (Nat.le_of_ble_eq_true rfl) ?_
        refine rn_pD (a := 5 * _ + 51) dX8_settle_59 (by omega) cc_lefts pD_lefts (vp_in_nI (by omega) (by decide)) ?_
        rw [nI_clamp (by omega)]
        first
          | exact rn_eq (congrArg (fun z => (wd z E, sl)) ((sT_pL S j A _ M BB _ _).trans (congrArg (fun z => sT S j (A, z, M, BB)) (mSe_t hb0).symm))) (rn_subg rfl KJ)
          | exact rn_eq (congrArg (fun z => (wd (sT S j (A, z, M, BB)) E, sl)) (mSe_f hb0).symm) (rn_subg rfl KJ)
      · refine rn_aload_n dX8_settle_42 rfl ?_
        refine rn_iload_n dX8_settle_43 rfl ?_
        refine rn_iload_n dX8_settle_44 rfl ?_
        refine rn_aload_n dX8_settle_45 rfl ?_
        refine rn_callV dX8_settle_46 cv_X8_120 (w_Late hj hc hkl hke hl1 hk1 hT hC hA (by omega) he hb0 (by assumption)) rfl (h_tim (by omega)) rfl rfl (by decide) (by decide) rfl (Nat.le_of_ble_eq_true rfl) ?_
        refine rn_goto (tgt := 59) dX8_settle_49 rfl ?_
        refine rn_pD (a := 5 * _ + 51) dX8_settle_59 (by omega) cc_lefts pD_lefts (vp_in_nI (by omega) (by decide)) ?_
        rw [nI_clamp (by omega)]
        first
          | exact rn_eq (congrArg (fun z => (wd z E, sl)) ((sT_pL S j A _ M BB _ _).trans (congrArg (fun z => sT S j (A, z, M, BB)) (mSe_t hb0).symm))) (rn_subg rfl KJ)
          | exact rn_eq (congrArg (fun z => (wd (sT S j (A, z, M, BB)) E, sl)) (mSe_f hb0).symm) (rn_subg rfl KJ)
set_option maxRecDepth 20000 in
theorem lp_set66 {n nr nc nk j c kl ke e : Nat} {A Z M BB : Nat → Int} (hj : j < 7) (hc : c < 3) (hkl : sD S (c + 10) 0 = dv (512 * kl)) (hke : sD S (c + 10) 1 = dv (512 * ke)) (hl1 : kl ≤ 16) (hk1 : ke ≤ kl) (hT : Told S n nr nc nk) (hC : CkH S n) (hA : okA A) (hZ : okL Z) (he : e < n) : Rn l D ad tc L xs mX8_settle 2 51 66 [(0, .ref (5 * j + 50)), (1, .int (nI e)), (2, .ref (c + 11))] [] (wd (sT S j (A, mSe S j kl ke e A Z n, M, BB)) E, sl) none (wd (sT S j (mSettle S j kl ke n e (A, Z, M, BB))) E, sl) := by
  have hn := hT.1.2
  have hZ1 := mSe_ok (j := j) (kl := kl) (ke := ke) hT hC hA he hl1 hk1 hZ n (by omega)
  have hZ2 := mLn_ok (S := S) (e := e) hZ1 (mBr_r (n := n) hT (show e < 16 by omega) hZ1).1 n
  refine rn_aload_n dX8_settle_66 rfl ?_
  refine rn_getfield dX8_settle_67 fo_X8_36 (h_tim (by omega)) rfl ?_
  refine rn_if_eq (tgt := 95) dX8_settle_70 rfl (fun q1 => ?_) (fun q1 => ?_)
  · rw [mSettle_f q1]
    first
      | exact rn_subg rfl (lp_set95 hj hT hZ1 he)
      | exact rn_subg rfl (lp_set95 hj hT hZ2 he)
  · refine rn_aload_n dX8_settle_73 rfl ?_
    refine rn_getfield dX8_settle_74 fo_X8_24 (h_tim (by omega)) rfl ?_
    refine rn_getfield dX8_settle_77 fo_X8_46 h_chip rfl ?_
    refine rn_iload_n dX8_settle_80 rfl ?_
    refine rn_aaload dX8_settle_81 h_nodes rfl (vp_in_nI (by omega) (by decide)) (refs_at rfl (by omega) (by decide)) ?_
    refine rn_getfield dX8_settle_82 fo_X8_50 (h_node (by omega)) rfl ?_
    refine rn_bipush (v := 7) dX8_settle_85 rfl ?_
    refine rn_icmp_ne (tgt := 95) dX8_settle_87 rfl (fun q2 => ?_) (fun q2 => ?_)
    · rw [mSettle_g (S := S) q2]
      first
        | exact rn_subg rfl (lp_set95 hj hT hZ1 he)
        | exact rn_subg rfl (lp_set95 hj hT hZ2 he)
    · rw [mSettle_t (S := S) (by assumption) q2]
      refine rn_aload_n dX8_settle_90 rfl ?_
      refine rn_iload_n dX8_settle_91 rfl ?_
      refine rn_callV dX8_settle_92 cv_X8_126 (c_X8_lend hj hT hZ1 he) rfl (h_tim (by omega)) rfl rfl (by decide) (by decide) rfl (Nat.le_of_ble_eq_true rfl) ?_
      first
        | exact rn_subg rfl (lp_set95 hj hT hZ1 he)
        | exact rn_subg rfl (lp_set95 hj hT hZ2 he)
set_option maxRecDepth 20000 in
theorem c_X8_settle {n nr nc nk j c kl ke e : Nat} {A Z M BB : Nat → Int} (hj : j < 7) (hc : c < 3) (hkl : sD S (c + 10) 0 = dv (512 * kl)) (hke : sD S (c + 10) 1 = dv (512 * ke)) (hl1 : kl ≤ 16) (hk1 : ke ≤ kl) (hT : Told S n nr nc nk) (hC : CkH S n) (hA : okA A) (hZ : okL Z) (he : e < n) : Cn l D ad tc L xs mX8_settle 2 51 [.ref (5 * j + 50), .int (nI e), .ref (c + 11)] (wd (sT S j (A, Z, M, BB)) E, sl) none (wd (sT S j (mSettle S j kl ke n e (A, Z, M, BB))) E, sl) := by
  refine cn_of (lv0 := [(0, .ref (5 * j + 50)), (1, .int (nI e)), (2, .ref (c + 11))]) (by decide +kernel) rfl (fun _ => by simp [lg_sl, j_v, Value.category]) (fun _ => rfl) ?_
  refine rn_iconst (v := 0) dX8_settle_0 rfl ?_
  refine rn_istore_n dX8_settle_1 (by decide) rfl ?_
  exact rn_subg rfl (lp_set1 hj hc hkl hke hl1 hk1 hT hC hA hZ he (lp_set66 hj hc hkl hke hl1 hk1 hT hC hA hZ he) n 0 (by omega))
end T7
end
section
/-! Timing: reckon -/
def okT (t : TT) : Prop := okA t.1 ∧ okL t.2.1 ∧ (∀ x, -20000000 ≤ t.2.2.1 x ∧ t.2.2.1 x ≤ 409595904) ∧ ∀ x, 0 ≤ t.2.2.2 x ∧ t.2.2.2 x ≤ 400000
def mArr (S : jS) (j kl ke : Nat) (p : Nat → Int) (m : Nat) (t : TT) : TT := if stB S m = true then (mDep t.1 m (t.2.2.2 m) (mDl j kl ke (p m) 0) (mDl j kl ke (p m) 1), t.2) else if gaB S m = true then (mPass S j m kl ke (p m) t.1, t.2) else t
def mStep (S : jS) (j kl ke n : Nat) (p : Nat → Int) (m : Nat) (t : TT) : TT := mArr S j kl ke p m (if kd S m = 7 then mSettle S j kl ke n m (t.1, t.2.1, t.2.2.1, upZ t.2.2.2 m 0) else (t.1, t.2.1, t.2.2.1, upZ t.2.2.2 m 0))
def mRk1 (S : jS) (j kl ke n : Nat) (p : Nat → Int) (t : TT) : Nat → TT
  | 0 => t
  | m + 1 => mStep S j kl ke n p m (mRk1 S j kl ke n p t m)
def mSt2 (S : jS) (j kl ke n m : Nat) (t : TT) : TT := if kd S m = 6 ∨ kd S m = 8 then mSettle S j kl ke n m t else t
def mRk2 (S : jS) (j kl ke n : Nat) (t : TT) : Nat → TT
  | 0 => t
  | m + 1 => mSt2 S j kl ke n m (mRk2 S j kl ke n t m)
/-- all that reckon does to the tables -/
def mRk (S : jS) (j kl ke n : Nat) (p : Nat → Int) (t : TT) : TT := mRk2 S j kl ke n (mRk1 S j kl ke n p t n) n
theorem mArr_s {S : jS} {j kl ke m : Nat} {p : Nat → Int} {t : TT} (h : stB S m = true) : mArr S j kl ke p m t = (mDep t.1 m (t.2.2.2 m) (mDl j kl ke (p m) 0) (mDl j kl ke (p m) 1), t.2) := if_pos h
theorem mArr_g {S : jS} {j kl ke m : Nat} {p : Nat → Int} {t : TT} (h : stB S m = false) (h2 : gaB S m = true) : mArr S j kl ke p m t = (mPass S j m kl ke (p m) t.1, t.2) := by
  unfold mArr
  rw [if_neg (by rw [h]; decide), if_pos h2]
theorem mArr_n {S : jS} {j kl ke m : Nat} {p : Nat → Int} {t : TT} (h : stB S m = false) (h2 : gaB S m = false) : mArr S j kl ke p m t = t := by
  unfold mArr
  rw [if_neg (by rw [h]; decide), if_neg (by rw [h2]; decide)]
theorem mStep_l {S : jS} {j kl ke n m : Nat} {p : Nat → Int} {A Z M BB : Nat → Int} (h : kd S m = 7) : mStep S j kl ke n p m (A, Z, M, BB) = mArr S j kl ke p m (mSettle S j kl ke n m (A, Z, M, upZ BB m 0)) := by
  unfold mStep
  rw [if_pos h]
theorem mStep_n {S : jS} {j kl ke n m : Nat} {p : Nat → Int} {A Z M BB : Nat → Int} (h : ¬ kd S m = 7) : mStep S j kl ke n p m (A, Z, M, BB) = mArr S j kl ke p m (A, Z, M, upZ BB m 0) := by
  unfold mStep
  rw [if_neg h]
theorem okU {F : Nat → Int} {a b : Int} {k : Nat} {v : Int} (h : ∀ x, a ≤ F x ∧ F x ≤ b) (h1 : a ≤ v) (h2 : v ≤ b) : ∀ x, a ≤ upZ F k v x ∧ upZ F k v x ≤ b := by
  intro x
  unfold upZ
  by_cases hx : x = k
  · rw [if_pos hx]
    exact ⟨h1, h2⟩
  · rw [if_neg hx]
    exact h x
theorem mSettle_ok {S : jS} {n nr nc nk j kl ke e : Nat} {t : TT} (hT : Told S n nr nc nk) (hC : CkH S n) (h1 : kl ≤ 16) (h2 : ke ≤ kl) (he : e < n) (ht : okT t) : okT (mSettle S j kl ke n e t) := by
  obtain ⟨A, Z, M, BB⟩ := t
  obtain ⟨hA, hZ, hM, hB⟩ := ht
  have hn := hT.1.2
  have hZ1 := mSe_ok (j := j) (kl := kl) (ke := ke) hT hC hA he h1 h2 hZ n (by omega)
  have hbr := mBr_r (n := n) hT (show e < 16 by omega) hZ1
  have hZ2 := mLn_ok (S := S) (e := e) hZ1 hbr.1 n
  have r1 := mLs_r (S := S) (e := e) hZ1 n
  have r2 := mLs_r (S := S) (e := e) hZ2 n
  unfold mSettle
  split
  · exact ⟨hA, hZ2, okU hM r2.1 r2.2, okU hB hbr.1 (by omega)⟩
  · exact ⟨hA, hZ1, okU hM r1.1 r1.2, hB⟩
def rises (S : jS) (j n : Nat) (p : Nat → Int) : Prop := ∀ i, i < n → sD S (xT j + 2) i = dv (32 * p i) ∧ 0 ≤ p i ∧ p i ≤ 17000
theorem mPass_ok {S : jS} {j q kl ke : Nat} {p : Int} {A : Nat → Int} (hq : q < 16) (hl1 : kl ≤ 16) (hk1 : ke ≤ kl) (hp : 0 ≤ p) (hp2 : p ≤ 17000) (hA : okA A) (h1 : fe1 S q = -1 ∨ ∃ a, a < q ∧ fe1 S q = nI a) (h2 : fe2 S q = -1 ∨ ∃ a, a < q ∧ fe2 S q = nI a) : okA (mPass S j q kl ke p A) :=
  mPs_ok hq (by decide) (mPs_ok hq (by decide) hA (mDl_r hl1 (by omega) hp hp2) h1 h2 q) (mDl_r hl1 (by omega) hp hp2) h1 h2 q
theorem fe_gate {S : jS} {n nr nc nk q : Nat} (hT : Told S n nr nc nk) (hq : q < n) (hg : gaB S q = true) : (fe1 S q = -1 ∨ ∃ a, a < q ∧ fe1 S q = nI a) ∧ (fe2 S q = -1 ∨ ∃ a, a < q ∧ fe2 S q = nI a) := by
  have h := hT.2.2.2.2.2.1 q hq
  refine ⟨h.2.2.1 (fun z => ?_), h.2.2.2⟩
  have hz := of_decide_eq_true hg
  replace z : sI S (q + 13) 0 = 6 := z
  rw [z] at hz
  exact absurd hz.2 (by decide)
theorem mArr_ok {S : jS} {n nr nc nk j kl ke m : Nat} {p : Nat → Int} {t : TT} (hT : Told S n nr nc nk) (hP : rises S j n p) (h1 : kl ≤ 16) (h2 : ke ≤ kl) (hm : m < n) (ht : okT t) : okT (mArr S j kl ke p m t) := by
  obtain ⟨A, Z, M, BB⟩ := t
  have hn := hT.1.2
  have hp := hP m hm
  cases hs : stB S m with
  | true =>
    rw [mArr_s (S := S) hs]
    have d0 := mDl_r (j := j) (kl := kl) (ke := ke) (e := 0) h1 (by omega) hp.2.1 hp.2.2
    have d1 := mDl_r (j := j) (kl := kl) (ke := ke) (e := 1) h1 (by omega) hp.2.1 hp.2.2
    have hb := ht.2.2.2 m
    replace hb : 0 ≤ BB m ∧ BB m ≤ 400000 := hb
    refine ⟨?_, ht.2⟩
    show okA (mDep A m (BB m) _ _)
    unfold mDep
    refine okA_u (okA_u ht.1 (by omega) ?_) (by omega) ?_
    · omega
    · omega
  | false =>
    cases hg : gaB S m with
    | true =>
      rw [mArr_g (S := S) hs hg]
      have hf := fe_gate hT hm hg
      exact ⟨mPass_ok (by omega) h1 h2 hp.2.1 hp.2.2 ht.1 hf.1 hf.2, ht.2⟩
    | false => rw [mArr_n (S := S) hs hg]; exact ht
theorem mStep_ok {S : jS} {n nr nc nk j kl ke m : Nat} {p : Nat → Int} {t : TT} (hT : Told S n nr nc nk) (hC : CkH S n) (hP : rises S j n p) (h1 : kl ≤ 16) (h2 : ke ≤ kl) (hm : m < n) (ht : okT t) : okT (mStep S j kl ke n p m t) := by
  have h0 : okT (t.1, t.2.1, t.2.2.1, upZ t.2.2.2 m 0) := ⟨ht.1, ht.2.1, ht.2.2.1, okU ht.2.2.2 (by omega) (by omega)⟩
  unfold mStep
  refine mArr_ok hT hP h1 h2 hm ?_
  split
  · exact mSettle_ok hT hC h1 h2 hm h0
  · exact h0
theorem mRk1_ok {S : jS} {n nr nc nk j kl ke : Nat} {p : Nat → Int} {t : TT} (hT : Told S n nr nc nk) (hC : CkH S n) (hP : rises S j n p) (h1 : kl ≤ 16) (h2 : ke ≤ kl) (ht : okT t) : ∀ m, m ≤ n → okT (mRk1 S j kl ke n p t m)
  | 0, _ => ht
  | m + 1, h => mStep_ok hT hC hP h1 h2 (by omega) (mRk1_ok hT hC hP h1 h2 ht m (by omega))
theorem mRk2_ok {S : jS} {n nr nc nk j kl ke : Nat} {t : TT} (hT : Told S n nr nc nk) (hC : CkH S n) (h1 : kl ≤ 16) (h2 : ke ≤ kl) (ht : okT t) : ∀ m, m ≤ n → okT (mRk2 S j kl ke n t m)
  | 0, _ => ht
  | m + 1, h => by
    have ih := mRk2_ok (j := j) hT hC h1 h2 ht m (by omega)
    unfold mRk2 mSt2
    split
    · exact mSettle_ok hT hC h1 h2 (by omega) ih
    · exact ih
theorem mRk_ok {S : jS} {n nr nc nk j kl ke : Nat} {p : Nat → Int} {t : TT} (hT : Told S n nr nc nk) (hC : CkH S n) (hP : rises S j n p) (h1 : kl ≤ 16) (h2 : ke ≤ kl) (ht : okT t) : okT (mRk S j kl ke n p t) :=
  mRk2_ok hT hC h1 h2 (mRk1_ok hT hC hP h1 h2 ht n (Nat.le_refl n)) n (Nat.le_refl n)
section T8
variable {l : Launch} {D : va_G} {ad : Nat → Nat} {tc : Nat → ClassId} {L : Nat} {xs : Nat → Int32} {S : jS} {E : List j_C} {sl x : Nat}
set_option maxRecDepth 20000 in
theorem lp_arr {n nr nc nk j c kl ke m : Nat} {p : Nat → Int} {t : TT} {r : Option Value} {h' : j_H} (hj : j < 7) (hc : c < 3) (hkl : sD S (c + 10) 0 = dv (512 * kl)) (hke : sD S (c + 10) 1 = dv (512 * ke)) (hl1 : kl ≤ 16) (hk1 : ke ≤ kl) (hT : Told S n nr nc nk) (hP : rises S j n p) (ht : okT t) (hm : m < n)
    (K : Rn l D ad tc L xs mX8_reckon 3 84 74 [(2, .int (nI m)), (0, .ref (5 * j + 50)), (1, .ref (c + 11))] [] (wd (sT S j (mArr S j kl ke p m t)) E, sl) r h') : Rn l D ad tc L xs mX8_reckon 3 84 45 [(3, .ref (m + 14)), (2, .int (nI m)), (0, .ref (5 * j + 50)), (1, .ref (c + 11))] [] (wd (sT S j (t)) E, sl) r h' := by
  have hn := hT.1.2
  have hp := hP m hm
  obtain ⟨A, Z, M, BB⟩ := t
  have hb : 0 ≤ BB m ∧ BB m ≤ 400000 := ht.2.2.2 m
  refine rn_aload_n dX8_reckon_45 rfl ?_
  refine rn_callV dX8_reckon_46 cv_X8_59 (c_X5_isStart (by omega)) rfl (h_node (by omega)) rfl rfl (by decide) (by decide) rfl (Nat.le_of_ble_eq_true rfl) ?_
  refine rn_if_eq (tgt := 61) dX8_reckon_49 rfl (fun q1 => ?_) (fun q1 => ?_)
  · rw [bI_0] at q1
    have hs0 : stB S m = false := q1
    refine rn_aload_n dX8_reckon_61 rfl ?_
    refine rn_callV dX8_reckon_62 cv_X8_66 (c_X5_isGate (by omega)) rfl (h_node (by omega)) rfl rfl (by decide) (by decide) rfl (Nat.le_of_ble_eq_true rfl) ?_
    refine rn_if_eq (tgt := 74) dX8_reckon_65 rfl (fun q2 => ?_) (fun q2 => ?_)
    · rw [bI_0] at q2
      rw [mArr_n (S := S) hs0 q2] at K
      exact rn_subg rfl K
    · rw [bI_n] at q2
      have hf := fe_gate hT hm q2
      rw [mArr_g (S := S) hs0 q2] at K
      refine rn_aload_n dX8_reckon_68 rfl ?_
      refine rn_iload_n dX8_reckon_69 rfl ?_
      refine rn_aload_n dX8_reckon_70 rfl ?_
      refine rn_callV dX8_reckon_71 cv_X8_69 (c_X8_pass hj (by omega) hc hkl hke hl1 hk1 hp.1 hp.2.1 hp.2.2 ht.1 hf.1 hf.2) rfl (h_tim (by omega)) rfl rfl (by decide) (by decide) rfl (Nat.le_of_ble_eq_true rfl) ?_
      exact rn_subg rfl K
  · rw [bI_n] at q1
    have hs0 : stB S m = true := q1
    rw [mArr_s (S := S) hs0] at K
    refine rn_aload_n dX8_reckon_52 rfl ?_
    refine rn_iload_n dX8_reckon_53 rfl ?_
    refine rn_aload_n dX8_reckon_54 rfl ?_
    refine rn_callV dX8_reckon_55 cv_X8_63 (c_X8_depart hj (by omega) hc hkl hke hl1 hk1 hp.1 hp.2.1 hp.2.2 hb) rfl (h_tim (by omega)) rfl rfl (by decide) (by decide) rfl (Nat.le_of_ble_eq_true rfl) ?_
    refine rn_goto (tgt := 74) dX8_reckon_58 rfl ?_
    exact rn_subg rfl K
theorem mSt2_t {S : jS} {j kl ke n m : Nat} {t : TT} (h : kd S m = 6 ∨ kd S m = 8) : mSt2 S j kl ke n m t = mSettle S j kl ke n m t := if_pos h
theorem mSt2_f {S : jS} {j kl ke n m : Nat} {t : TT} (h : ¬ (kd S m = 6 ∨ kd S m = 8)) : mSt2 S j kl ke n m t = t := if_neg h
set_option maxRecDepth 20000 in
theorem lp_rk2 {n nr nc nk j c kl ke : Nat} {t : TT} (hj : j < 7) (hc : c < 3) (hkl : sD S (c + 10) 0 = dv (512 * kl)) (hke : sD S (c + 10) 1 = dv (512 * ke)) (hl1 : kl ≤ 16) (hk1 : ke ≤ kl) (hT : Told S n nr nc nk) (hC : CkH S n) (ht : okT t) : ∀ m k : Nat, k + m = n → Rn l D ad tc L xs mX8_reckon 3 84 82 [(2, .int (nI k)), (0, .ref (5 * j + 50)), (1, .ref (c + 11))] [] (wd (sT S j (mRk2 S j kl ke n t k)) E, sl) none (wd (pI (sT S j (mRk2 S j kl ke n t n)) (5 * j + 49) 8 1) E, sl) := by
  obtain ⟨⟨hN, hn⟩, -, -, -, hv, -, -, hK, -, -⟩ := id hT
  intro m
  induction m with
  | zero =>
    intro k hk
    have hk' : n = k := by omega
    subst hk'
    have hN1 := hN
    refine rn_iload_n dX8_reckon_82 rfl ?_
    refine rn_aload_n dX8_reckon_83 rfl ?_
    refine rn_getfield dX8_reckon_84 fo_X8_24 (h_tim (by omega)) rfl ?_
    refine rn_getfield dX8_reckon_87 fo_X8_40 h_chip rfl ?_
    refine rn_topi hN1 ?_
    refine rn_icmp_ge (tgt := 139) dX8_reckon_90 rfl (fun _ => ?_) (fun q1 => absurd (by exact Int32.le_refl _) q1)
    refine rn_aload_n dX8_reckon_139 rfl ?_
    refine rn_iconst (v := 1) dX8_reckon_140 rfl ?_
    refine rn_pI (a := 5 * j + 49) dX8_reckon_141 fp_X8_72 (by omega) cc_tim cc_timI (by simp) ⟨rfl, rfl⟩ ⟨_, _, _, rfl, rfl⟩ ?_
    exact rn_ret dX8_reckon_144 trivial rfl
  | succ m ih =>
    intro k hk
    have hN1 := hN
    have ih := ih (k + 1) (by omega)
    have KJ : Rn l D ad tc L xs mX8_reckon 3 84 133 [(2, .int (nI k)), (0, .ref (5 * j + 50)), (1, .ref (c + 11))] [] (wd (sT S j (mRk2 S j kl ke n t (k + 1))) E, sl) none (wd (pI (sT S j (mRk2 S j kl ke n t n)) (5 * j + 49) 8 1) E, sl) := by
      refine rn_iinc dX8_reckon_133 rfl (nI_1 _) (by decide) rfl ?_
      refine rn_goto (tgt := 82) dX8_reckon_136 rfl ?_
      exact rn_subg rfl ih
    rw [show mRk2 S j kl ke n t (k + 1) = mSt2 S j kl ke n k (mRk2 S j kl ke n t k) from rfl] at KJ
    have ht1 := mRk2_ok (j := j) hT hC hl1 hk1 ht k (by omega)
    generalize mRk2 S j kl ke n t k = t1 at KJ ht1 ⊢
    obtain ⟨A, Z, M, BB⟩ := t1
    refine rn_iload_n dX8_reckon_82 rfl ?_
    refine rn_aload_n dX8_reckon_83 rfl ?_
    refine rn_getfield dX8_reckon_84 fo_X8_24 (h_tim (by omega)) rfl ?_
    refine rn_getfield dX8_reckon_87 fo_X8_40 h_chip rfl ?_
    refine rn_topi hN1 ?_
    refine rn_icmp_ge (tgt := 139) dX8_reckon_90 rfl (fun q1 => absurd q1 (by rw [Int32.le_iff_toInt_le, nI_toInt (by omega), nI_toInt (by omega)] at q1; omega)) (fun _ => ?_)
    refine rn_aload_n dX8_reckon_93 rfl ?_
    refine rn_getfield dX8_reckon_94 fo_X8_24 (h_tim (by omega)) rfl ?_
    refine rn_getfield dX8_reckon_97 fo_X8_46 h_chip rfl ?_
    refine rn_iload_n dX8_reckon_100 rfl ?_
    refine rn_aaload dX8_reckon_101 h_nodes rfl (vp_in_nI (by omega) (by decide)) (refs_at rfl (by omega) (by decide)) ?_
    refine rn_getfield dX8_reckon_102 fo_X8_50 (h_node (by omega)) rfl ?_
    refine rn_bipush (v := 6) dX8_reckon_105 rfl ?_
    refine rn_icmp_eq (tgt := 127) dX8_reckon_107 rfl (fun q2 => ?_) (fun q2 => ?_)
    · rw [mSt2_t (S := S) (Or.inl q2)] at KJ
      refine rn_aload_n dX8_reckon_127 rfl ?_
      refine rn_iload_n dX8_reckon_128 rfl ?_
      refine rn_aload_n dX8_reckon_129 rfl ?_
      refine rn_callV dX8_reckon_130 cv_X8_55 (c_X8_settle hj hc hkl hke hl1 hk1 hT hC ht1.1 ht1.2.1 (by omega)) rfl (h_tim (by omega)) rfl rfl (by decide) (by decide) rfl (Nat.le_of_ble_eq_true rfl) ?_
      exact rn_subg rfl KJ
    · have h6 : ¬ kd S k = 6 := q2
      refine rn_aload_n dX8_reckon_110 rfl ?_
      refine rn_getfield dX8_reckon_111 fo_X8_24 (h_tim (by omega)) rfl ?_
      refine rn_getfield dX8_reckon_114 fo_X8_46 h_chip rfl ?_
      refine rn_iload_n dX8_reckon_117 rfl ?_
      refine rn_aaload dX8_reckon_118 h_nodes rfl (vp_in_nI (by omega) (by decide)) (refs_at rfl (by omega) (by decide)) ?_
      refine rn_getfield dX8_reckon_119 fo_X8_50 (h_node (by omega)) rfl ?_
      refine rn_bipush (v := 8) dX8_reckon_122 rfl ?_
      refine rn_icmp_ne (tgt := 133) dX8_reckon_124 rfl (fun q3 => ?_) (fun q3 => ?_)
      · rw [mSt2_f (S := S) (fun z => z.elim h6 q3)] at KJ
        exact rn_subg rfl KJ
      · rw [mSt2_t (S := S) (Or.inr q3)] at KJ
        refine rn_aload_n dX8_reckon_127 rfl ?_
        refine rn_iload_n dX8_reckon_128 rfl ?_
        refine rn_aload_n dX8_reckon_129 rfl ?_
        refine rn_callV dX8_reckon_130 cv_X8_55 (c_X8_settle hj hc hkl hke hl1 hk1 hT hC ht1.1 ht1.2.1 (by omega)) rfl (h_tim (by omega)) rfl rfl (by decide) (by decide) rfl (Nat.le_of_ble_eq_true rfl) ?_
        exact rn_subg rfl KJ
set_option maxRecDepth 20000 in
theorem lp_rk1 {n nr nc nk j c kl ke : Nat} {p : Nat → Int} {t : TT} (hj : j < 7) (hc : c < 3) (hkl : sD S (c + 10) 0 = dv (512 * kl)) (hke : sD S (c + 10) 1 = dv (512 * ke)) (hl1 : kl ≤ 16) (hk1 : ke ≤ kl) (hT : Told S n nr nc nk) (hC : CkH S n) (hP : rises S j n p) (ht : okT t) : ∀ m k : Nat, k + m = n → Rn l D ad tc L xs mX8_reckon 3 84 2 [(2, .int (nI k)), (0, .ref (5 * j + 50)), (1, .ref (c + 11))] [] (wd (sT S j (mRk1 S j kl ke n p t k)) E, sl) none (wd (pI (sT S j (mRk S j kl ke n p t)) (5 * j + 49) 8 1) E, sl) := by
  obtain ⟨⟨hN, hn⟩, -, -, -, hv, -, -, hK, -, -⟩ := id hT
  intro m
  induction m with
  | zero =>
    intro k hk
    have hk' : n = k := by omega
    subst hk'
    have hN1 := hN
    refine rn_iload_n dX8_reckon_2 rfl ?_
    refine rn_aload_n dX8_reckon_3 rfl ?_
    refine rn_getfield dX8_reckon_4 fo_X8_24 (h_tim (by omega)) rfl ?_
    refine rn_getfield dX8_reckon_7 fo_X8_40 h_chip rfl ?_
    refine rn_topi hN1 ?_
    refine rn_icmp_ge (tgt := 80) dX8_reckon_10 rfl (fun _ => ?_) (fun q1 => absurd (by exact Int32.le_refl _) q1)
    refine rn_iconst (v := 0) dX8_reckon_80 rfl ?_
    refine rn_istore_n dX8_reckon_81 (by decide) rfl ?_
    exact rn_subg rfl (lp_rk2 hj hc hkl hke hl1 hk1 hT hC (mRk1_ok hT hC hP hl1 hk1 ht n (Nat.le_refl n)) n 0 (by omega))
  | succ m ih =>
    intro k hk
    have hN1 := hN
    have ih := ih (k + 1) (by omega)
    have KJ : Rn l D ad tc L xs mX8_reckon 3 84 74 [(2, .int (nI k)), (0, .ref (5 * j + 50)), (1, .ref (c + 11))] [] (wd (sT S j (mRk1 S j kl ke n p t (k + 1))) E, sl) none (wd (pI (sT S j (mRk S j kl ke n p t)) (5 * j + 49) 8 1) E, sl) := by
      refine rn_iinc dX8_reckon_74 rfl (nI_1 _) (by decide) rfl ?_
      refine rn_goto (tgt := 2) dX8_reckon_77 rfl ?_
      exact rn_subg rfl ih
    rw [show mRk1 S j kl ke n p t (k + 1) = mStep S j kl ke n p k (mRk1 S j kl ke n p t k) from rfl] at KJ
    have ht1 := mRk1_ok hT hC hP hl1 hk1 ht k (by omega)
    generalize mRk1 S j kl ke n p t k = t1 at KJ ht1 ⊢
    obtain ⟨A, Z, M, BB⟩ := t1
    have ht0 : okT (A, Z, M, upZ BB k 0) := ⟨ht1.1, ht1.2.1, ht1.2.2.1, okU ht1.2.2.2 (by omega) (by omega)⟩
    refine rn_iload_n dX8_reckon_2 rfl ?_
    refine rn_aload_n dX8_reckon_3 rfl ?_
    refine rn_getfield dX8_reckon_4 fo_X8_24 (h_tim (by omega)) rfl ?_
    refine rn_getfield dX8_reckon_7 fo_X8_40 h_chip rfl ?_
    refine rn_topi hN1 ?_
    refine rn_icmp_ge (tgt := 80) dX8_reckon_10 rfl (fun q1 => absurd q1 (by rw [Int32.le_iff_toInt_le, nI_toInt (by omega), nI_toInt (by omega)] at q1; omega)) (fun _ => ?_)
    refine rn_aload_n dX8_reckon_13 rfl ?_
    refine rn_getfield dX8_reckon_14 fo_X8_24 (h_tim (by omega)) rfl ?_
    refine rn_getfield dX8_reckon_17 fo_X8_46 h_chip rfl ?_
    refine rn_iload_n dX8_reckon_20 rfl ?_
    refine rn_aaload dX8_reckon_21 h_nodes rfl (vp_in_nI (by omega) (by decide)) (refs_at rfl (by omega) (by decide)) ?_
    refine rn_astore_n dX8_reckon_22 (by decide) rfl ?_
    refine rn_aload_n dX8_reckon_23 rfl ?_
    refine rn_getfield dX8_reckon_24 fo_X8_21 (h_tim (by omega)) rfl ?_
    refine rn_iload_n dX8_reckon_27 rfl ?_
    refine rn_dcon0 dX8_reckon_28 ?_
    refine rn_pD (a := 5 * _ + 53) dX8_reckon_29 (by omega) cc_borrows pD_borrows (vp_in_nI (by omega) (by decide)) ?_
    rw [nI_clamp (by omega)]
    refine rn_eq (congrArg (fun z => (wd z E, sl)) (sT_pB S j A Z M BB _ _)) ?_
    refine rn_aload_n dX8_reckon_30 rfl ?_
    refine rn_getfield dX8_reckon_31 fo_X8_50 (h_node (by omega)) rfl ?_
    refine rn_bipush (v := 7) dX8_reckon_34 rfl ?_
    refine rn_icmp_ne (tgt := 45) dX8_reckon_36 rfl (fun q2 => ?_) (fun q2 => ?_)
    · rw [mStep_n (S := S) q2] at KJ
      exact rn_subg rfl (lp_arr hj hc hkl hke hl1 hk1 hT hP ht0 (by omega) KJ)
    · rw [mStep_l (S := S) q2] at KJ
      refine rn_aload_n dX8_reckon_39 rfl ?_
      refine rn_iload_n dX8_reckon_40 rfl ?_
      refine rn_aload_n dX8_reckon_41 rfl ?_
      refine rn_callV dX8_reckon_42 cv_X8_55 (c_X8_settle hj hc hkl hke hl1 hk1 hT hC ht1.1 ht1.2.1 (by omega)) rfl (h_tim (by omega)) rfl rfl (by decide) (by decide) rfl (Nat.le_of_ble_eq_true rfl) ?_
      exact rn_subg rfl (lp_arr hj hc hkl hke hl1 hk1 hT hP (mSettle_ok hT hC hl1 hk1 (by omega) ht0) (by omega) KJ)
set_option maxRecDepth 20000 in
theorem c_X8_reckon {n nr nc nk j c kl ke : Nat} {p : Nat → Int} {t : TT} (hj : j < 7) (hc : c < 3) (hkl : sD S (c + 10) 0 = dv (512 * kl)) (hke : sD S (c + 10) 1 = dv (512 * ke)) (hl1 : kl ≤ 16) (hk1 : ke ≤ kl) (hT : Told S n nr nc nk) (hC : CkH S n) (hP : rises S j n p) (ht : okT t) : Cn l D ad tc L xs mX8_reckon 3 84 [.ref (5 * j + 50), .ref (c + 11)] (wd (sT S j (t)) E, sl) none (wd (pI (sT S j (mRk S j kl ke n p t)) (5 * j + 49) 8 1) E, sl) := by
  refine cn_of (lv0 := [(0, .ref (5 * j + 50)), (1, .ref (c + 11))]) (by decide +kernel) rfl (fun _ => by simp [lg_sl, j_v, Value.category]) (fun _ => rfl) ?_
  refine rn_iconst (v := 0) dX8_reckon_0 rfl ?_
  refine rn_istore_n dX8_reckon_1 (by decide) rfl ?_
  exact rn_subg rfl (lp_rk1 hj hc hkl hke hl1 hk1 hT hC hP ht n 0 (by omega))
def mLe (S : jS) (M : Nat → Int) : Nat → Int
  | 0 => 409595904
  | e + 1 => if sA S 40 e ≠ 0 then min (mLe S M e) (M e) else mLe S M e
theorem mLe_t {S : jS} {M : Nat → Int} {e : Nat} (h : sA S 40 e ≠ 0) : mLe S M (e + 1) = min (mLe S M e) (M e) := if_pos h
theorem mLe_f {S : jS} {M : Nat → Int} {e : Nat} (h : ¬ sA S 40 e ≠ 0) : mLe S M (e + 1) = mLe S M e := if_neg h
theorem mLe_r {S : jS} {M : Nat → Int} (hM : ∀ x, -20000000 ≤ M x ∧ M x ≤ 409595904) : ∀ e, -20000000 ≤ mLe S M e ∧ mLe S M e ≤ 409595904
  | 0 => by unfold mLe; omega
  | e + 1 => by
    have ih := mLe_r (S := S) hM e
    have := hM e
    unfold mLe
    split <;> omega
set_option maxRecDepth 20000 in
theorem lp_lend_e {n nr nc nk j : Nat} {M : Nat → Int} (hj : j < 7) (hT : Told S n nr nc nk) (hS : sD S (5 * j + 52) = fun i => dv (M i)) (hM : ∀ x, -20000000 ≤ M x ∧ M x ≤ 409595904) : ∀ m k : Nat, k + m = n → Rn l D ad tc L xs mX8_leastOfEnds 1 23 6 [(3, .int (nI k)), (1, .double (dv (mLe S M k))), (0, .ref (5 * j + 50))] [] (wd S E, sl) (some (.double (dv (mLe S M n)))) (wd S E, sl) := by
  obtain ⟨⟨hN, hn⟩, -, -, -, hv, -, -, hK, -, -⟩ := id hT
  intro m
  induction m with
  | zero =>
    intro k hk
    have hk' : n = k := by omega
    subst hk'
    have hN1 := hN
    refine rn_iload_n dX8_leastOfEnds_6 rfl ?_
    refine rn_aload_n dX8_leastOfEnds_7 rfl ?_
    refine rn_getfield dX8_leastOfEnds_8 fo_X8_24 (h_tim (by omega)) rfl ?_
    refine rn_getfield dX8_leastOfEnds_11 fo_X8_40 h_chip rfl ?_
    refine rn_topi hN1 ?_
    refine rn_icmp_ge (tgt := 45) dX8_leastOfEnds_14 rfl (fun _ => ?_) (fun q1 => absurd (by exact Int32.le_refl _) q1)
    refine rn_dload_n dX8_leastOfEnds_45 rfl ?_
    exact rn_ret dX8_leastOfEnds_46 trivial rfl
  | succ m ih =>
    intro k hk
    have hN1 := hN
    have ih := ih (k + 1) (by omega)
    have KJ : Rn l D ad tc L xs mX8_leastOfEnds 1 23 39 [(3, .int (nI k)), (1, .double (dv (mLe S M (k + 1)))), (0, .ref (5 * j + 50))] [] (wd S E, sl) (some (.double (dv (mLe S M n)))) (wd S E, sl) := by
      refine rn_iinc dX8_leastOfEnds_39 rfl (nI_1 _) (by decide) rfl ?_
      refine rn_goto (tgt := 6) dX8_leastOfEnds_42 rfl ?_
      exact rn_subg rfl ih
    have hr1 := mLe_r (S := S) hM k
    have hr2 := hM k
    have LM : sD S (5 * j + 52) k = dv (M k) := congrFun hS k
    refine rn_iload_n dX8_leastOfEnds_6 rfl ?_
    refine rn_aload_n dX8_leastOfEnds_7 rfl ?_
    refine rn_getfield dX8_leastOfEnds_8 fo_X8_24 (h_tim (by omega)) rfl ?_
    refine rn_getfield dX8_leastOfEnds_11 fo_X8_40 h_chip rfl ?_
    refine rn_topi hN1 ?_
    refine rn_icmp_ge (tgt := 45) dX8_leastOfEnds_14 rfl (fun q1 => absurd q1 (by rw [Int32.le_iff_toInt_le, nI_toInt (by omega), nI_toInt (by omega)] at q1; omega)) (fun _ => ?_)
    refine rn_aload_n dX8_leastOfEnds_17 rfl ?_
    refine rn_getfield dX8_leastOfEnds_18 fo_X8_28 (h_tim (by omega)) rfl ?_
    refine rn_iload_n dX8_leastOfEnds_21 rfl ?_
    refine rn_callV dX8_leastOfEnds_22 cv_X8_177 (c_X6_hasCheck (by omega)) rfl h_paths rfl rfl (by decide) (by decide) rfl (Nat.le_of_ble_eq_true rfl) ?_
    refine rn_if_eq (tgt := 39) dX8_leastOfEnds_25 rfl (fun q2 => ?_) (fun q2 => ?_)
    · rw [bI_0, decide_eq_false_iff_not] at q2
      first
        | (rw [mLe_t (by assumption)] at KJ; exact rn_subg rfl KJ)
        | (rw [mLe_f (by assumption)] at KJ; exact rn_subg rfl KJ)
    · rw [bI_n, decide_eq_true_eq] at q2
      refine rn_dload_n dX8_leastOfEnds_28 rfl ?_
      refine rn_aload_n dX8_leastOfEnds_29 rfl ?_
      refine rn_getfield dX8_leastOfEnds_30 fo_X8_18 (h_tim (by omega)) rfl ?_
      refine rn_iload_n dX8_leastOfEnds_33 rfl ?_
      refine rn_daload dX8_leastOfEnds_34 (h_leasts (by omega)) rfl (vp_in_nI (by omega) (by decide)) ?_
      rw [nI_clamp (by omega)]
      rw [LM]
      refine rn_callSN dX8_leastOfEnds_35 csn_X8_135 (c_X9_smaller (dB_of (by omega) (by omega)) (dB_of (by omega) (by omega))) rfl (by decide) (by decide) rfl (Nat.le_of_ble_eq_true rfl) ?_
      refine rn_dstore_n dX8_leastOfEnds_38 (by decide) rfl ?_
      first
        | (rw [mLe_t (by assumption)] at KJ; exact rn_subg rfl KJ)
        | (rw [mLe_f (by assumption)] at KJ; exact rn_subg rfl KJ)
set_option maxRecDepth 20000 in
theorem c_X8_leastOfEnds {n nr nc nk j : Nat} {M : Nat → Int} (hj : j < 7) (hT : Told S n nr nc nk) (hS : sD S (5 * j + 52) = fun i => dv (M i)) (hM : ∀ x, -20000000 ≤ M x ∧ M x ≤ 409595904) : Cn l D ad tc L xs mX8_leastOfEnds 1 23 [.ref (5 * j + 50)] (wd S E, sl) (some (.double (dv (mLe S M n)))) (wd S E, sl) := by
  refine cn_of (lv0 := [(0, .ref (5 * j + 50))]) (by decide +kernel) rfl (fun _ => by simp [lg_sl, j_v, Value.category]) (fun _ => rfl) ?_
  refine rn_dcon (n := 0) (m := 409595904) dX8_leastOfEnds_0 wd_339 (by decide +kernel) ?_
  refine rn_dstore_n dX8_leastOfEnds_3 (by decide) rfl ?_
  refine rn_iconst (v := 0) dX8_leastOfEnds_4 rfl ?_
  refine rn_istore_n dX8_leastOfEnds_5 (by decide) rfl ?_
  exact rn_subg rfl (lp_lend_e hj hT hS hM n 0 (by omega))
end T8
end
section
/-! The told part and the tables: what the calls keep -/
theorem Told_k {S S' : jS} {n nr nc nk : Nat} (h1 : ∀ k f, k < 35 → S'.1 k f = S.1 k f) (hD : ∀ k f, k < 13 → S'.2.2.1 k f = S.2.2.1 k f) (hF : ∀ k f, k < 35 → S'.2.2.2.1 k f = S.2.2.2.1 k f) (hV : S'.2.2.2.2 = S.2.2.2.2) (h : Told S n nr nc nk) : Told S' n nr nc nk := by
  obtain ⟨⟨a1, a2⟩, ⟨b1, b2⟩, ⟨c1, c2⟩, ⟨d1, d2⟩, e, f, g, i, c, r⟩ := h
  refine ⟨⟨(h1 1 6 (by decide)).trans a1, a2⟩, ⟨(h1 1 7 (by decide)).trans b1, b2⟩, ⟨(h1 1 5 (by decide)).trans c1, c2⟩, ⟨(h1 1 4 (by decide)).trans d1, d2⟩, ?_, ?_, ?_, ?_, ?_, ?_⟩
  · intro k hk
    rw [show sV S' = sV S from hV]
    exact e k hk
  · intro k hk
    have hq := f k hk
    rw [show kd S' k = kd S k from h1 _ _ (by omega), show fe1 S' k = fe1 S k from h1 _ _ (by omega), show fe2 S' k = fe2 S k from h1 _ _ (by omega)]
    exact hq
  · intro k hk
    rw [show sI S' (k + 13) 5 = sI S (k + 13) 5 from h1 _ _ (by omega), show sF S' (k + 13) 6 = sF S (k + 13) 6 from hF _ _ (by omega), show sI S' (k + 13) 7 = sI S (k + 13) 7 from h1 _ _ (by omega)]
    exact g k hk
  · intro k hk
    rw [show sI S' (k + 6) 0 = sI S (k + 6) 0 from h1 _ _ (by omega), show sI S' (k + 6) 1 = sI S (k + 6) 1 from h1 _ _ (by omega), show sI S' (k + 6) 2 = sI S (k + 6) 2 from h1 _ _ (by omega)]
    exact i k hk
  · intro k hk
    rw [show sD S' (k + 10) 0 = sD S (k + 10) 0 from hD _ _ (by omega), show sD S' (k + 10) 1 = sD S (k + 10) 1 from hD _ _ (by omega)]
    exact c k hk
  · intro k hk
    rw [show sI S' (k + 29) 0 = sI S (k + 29) 0 from h1 _ _ (by omega)]
    exact r k hk
/-- the told parts of two states are one -/
def TS (S S' : jS) : Prop := (∀ k f, k < 35 → S'.1 k f = S.1 k f) ∧ (∀ k f, k < 13 → S'.2.2.1 k f = S.2.2.1 k f) ∧ (∀ k f, k < 35 → S'.2.2.2.1 k f = S.2.2.2.1 k f) ∧ S'.2.2.2.2 = S.2.2.2.2
theorem TS_r (S : jS) : TS S S := ⟨fun _ _ _ => rfl, fun _ _ _ => rfl, fun _ _ _ => rfl, rfl⟩
theorem TS_t {S S' S2 : jS} (h : TS S S') (h2 : TS S' S2) : TS S S2 := ⟨fun k f q => (h2.1 k f q).trans (h.1 k f q), fun k f q => (h2.2.1 k f q).trans (h.2.1 k f q), fun k f q => (h2.2.2.1 k f q).trans (h.2.2.1 k f q), h2.2.2.2.trans h.2.2.2⟩
theorem TS_s {S S' : jS} (h : TS S S') : TS S' S := ⟨fun k f q => (h.1 k f q).symm, fun k f q => (h.2.1 k f q).symm, fun k f q => (h.2.2.1 k f q).symm, h.2.2.2.symm⟩
theorem TS_I (S : jS) {k f : Nat} {v : Int32} (h : 35 ≤ k) : TS S (pI S k f v) := ⟨fun _ _ q => up2_k _ _ (by omega), fun _ _ _ => rfl, fun _ _ _ => rfl, rfl⟩
theorem TS_A (S : jS) (k : Nat) (g : Nat → Int32) : TS S (pA S k g) := ⟨fun _ _ _ => rfl, fun _ _ _ => rfl, fun _ _ _ => rfl, rfl⟩
theorem TS_D (S : jS) {k : Nat} (g : Nat → UInt64) (h : 13 ≤ k) : TS S (pD S k g) := ⟨fun _ _ _ => rfl, fun a _ q => congrFun (up1_ne S.2.2.1 g (show a ≠ k by omega)) _, fun _ _ _ => rfl, rfl⟩
theorem TS_F (S : jS) {k : Nat} (g : Nat → UInt32) (h : 35 ≤ k) : TS S (pF S k g) := ⟨fun _ _ _ => rfl, fun _ _ _ => rfl, fun a _ q => congrFun (up1_ne S.2.2.2.1 g (show a ≠ k by omega)) _, rfl⟩
theorem TS_T (S : jS) (j : Nat) (t : TT) : TS S (sT S j t) := ⟨fun _ _ _ => rfl, fun a _ q => congrFun (sT_o (by omega)) _, fun _ _ _ => rfl, rfl⟩
theorem Told_s {S S' : jS} {n nr nc nk : Nat} (h : TS S S') (hT : Told S n nr nc nk) : Told S' n nr nc nk := Told_k h.1 h.2.1 h.2.2.1 h.2.2.2 hT
theorem Tw_s {S S' : jS} {w : Nat → Nat} (h : TS S S') (hw : Tw S w) : Tw S' w := fun i hi => ⟨(hw i hi).1, (h.2.2.1 _ _ (by omega)).trans (hw i hi).2⟩
theorem TS_c {S S' : jS} (h1 : S'.1 = S.1) (h2 : S'.2.2 = S.2.2) : TS S S' := ⟨fun _ _ _ => by rw [h1], fun _ _ _ => by rw [h2], fun _ _ _ => by rw [h2], by rw [h2]⟩
theorem TS_paths (S : jS) (n nr : Nat) : TS S (sPaths S n nr) := by
  unfold sPaths
  split
  · exact TS_t (TS_c ((sChks_c _ _ _ _).1.trans (sPrep_c _ _ _).1) ((sChks_c _ _ _ _).2.trans (sPrep_c _ _ _).2)) (TS_I _ (by decide))
  · exact TS_r S
theorem TS_del (S : jS) (w : Nat → Nat) (n : Nat) {x : Nat} (h : x = 43 ∨ x = 46) : TS S (sDel S w n x) := TS_t (TS_F S _ (by omega)) (TS_D _ _ (by omega))
theorem TS_delays (S : jS) (w : Nat → Nat) (n : Nat) {x : Nat} (h : x = 43 ∨ x = 46) : TS S (sDelays S w n x) := by
  unfold sDelays
  split
  · exact TS_t (TS_del S w n h) (TS_I _ (by omega))
  · exact TS_r S
/-- the number of the grid that a double is -/
noncomputable def gd (x : UInt64) : Int := Classical.epsilon (fun n : Int => dB n ∧ dv n = x)
theorem dv_inj {a b : Int} (ha : dB a) (hb : dB b) (h : dv a = dv b) : a = b := by
  have h1 := dv_cmp ha hb
  rw [h, dv_cmp hb hb] at h1
  have h2 := Option.some.inj h1
  rw [show compare b b = Ordering.eq by simp] at h2
  exact (Int.compare_eq_eq.mp h2.symm)
theorem gd_dv {n : Int} (h : dB n) : gd (dv n) = n := by
  have he : ∃ m : Int, dB m ∧ dv m = dv n := ⟨n, h, rfl⟩
  have hs := Classical.epsilon_spec he
  exact dv_inj hs.1 h hs.2
noncomputable def tOf (S : jS) (j : Nat) : TT := (fun i => gd (sD S (5 * j + 50) i), fun i => gd (sD S (5 * j + 51) i), fun i => gd (sD S (5 * j + 52) i), fun i => gd (sD S (5 * j + 53) i))
def GT (S : jS) (j : Nat) (t : TT) : Prop := sD S (5 * j + 50) = (fun i => dv (t.1 i)) ∧ sD S (5 * j + 51) = (fun i => dv (t.2.1 i)) ∧ sD S (5 * j + 52) = (fun i => dv (t.2.2.1 i)) ∧ sD S (5 * j + 53) = (fun i => dv (t.2.2.2 i))
theorem GT_of {S : jS} {j : Nat} {t : TT} (h : GT S j t) (ht : okT t) : tOf S j = t := by
  obtain ⟨A, Z, M, BB⟩ := t
  obtain ⟨h1, h2, h3, h4⟩ := h
  obtain ⟨k1, k2, k3, k4⟩ := ht
  unfold tOf
  rw [h1, h2, h3, h4]
  congr 1
  · funext i
    have := okA_x k1 i
    exact gd_dv (dB_of (by omega) (by omega))
  · congr 1
    · funext i
      have := k2 i
      exact gd_dv (dB_of (by omega) (by omega))
    · congr 1
      · funext i
        have := k3 i
        exact gd_dv (dB_of (by omega) (by omega))
      · funext i
        have := k4 i
        exact gd_dv (dB_of (by omega) (by omega))
def Grid (S : jS) (j : Nat) : Prop := GT S j (tOf S j) ∧ okT (tOf S j)
theorem Grid_i {S : jS} {j : Nat} {t : TT} (h : GT S j t) (ht : okT t) : Grid S j := by
  unfold Grid
  rw [GT_of h ht]
  exact ⟨h, ht⟩
theorem GT_s (S : jS) (j : Nat) (t : TT) : GT (sT S j t) j t := ⟨sT_a S j t, sT_l S j t, sT_m S j t, sT_b S j t⟩
theorem sT_id {S : jS} {j : Nat} {t : TT} (h : GT S j t) : sT S j t = S := by
  obtain ⟨a, b, c, d⟩ := S
  unfold sT
  congr 2
  congr 1
  funext k
  obtain ⟨h1, h2, h3, h4⟩ := h
  by_cases e1 : k = 5 * j + 50
  · rw [if_pos e1, e1]; exact h1.symm
  · rw [if_neg e1]
    by_cases e2 : k = 5 * j + 51
    · rw [if_pos e2, e2]; exact h2.symm
    · rw [if_neg e2]
      by_cases e3 : k = 5 * j + 52
      · rw [if_pos e3, e3]; exact h3.symm
      · rw [if_neg e3]
        by_cases e4 : k = 5 * j + 53
        · rw [if_pos e4, e4]; exact h4.symm
        · rw [if_neg e4]
/-- the arrays of doubles from 49 on are those of another state -/
theorem Grid_c {S S' : jS} {j : Nat} (h : ∀ a, 5 * j + 50 ≤ a → a ≤ 5 * j + 53 → sD S' a = sD S a) (hg : Grid S j) : Grid S' j := by
  have ht : tOf S' j = tOf S j := by
    unfold tOf
    rw [h _ (by omega) (by omega), h _ (by omega) (by omega), h _ (by omega) (by omega), h _ (by omega) (by omega)]
  unfold Grid GT
  rw [ht, h _ (by omega) (by omega), h _ (by omega) (by omega), h _ (by omega) (by omega), h _ (by omega) (by omega)]
  exact hg
theorem sT_n {S : jS} {j a : Nat} {t : TT} (h : a < 5 * j + 50 ∨ 5 * j + 53 < a) : (sT S j t).2.2.1 a = S.2.2.1 a := by
  show ite _ _ _ = _
  rw [if_neg (by omega), if_neg (by omega), if_neg (by omega), if_neg (by omega)]
end
section
/-! Analysis: forget, paths, delays, timing, leastOfAll -/
def jOf (c : Nat) (b : Bool) : Nat := if b = true then 2 * c + 1 else 2 * c + 2
theorem jOf_l {c : Nat} {b : Bool} (hc : c < 3) : jOf c b < 7 := by unfold jOf; split <;> omega
theorem jOf_1 {c : Nat} {b : Bool} : 1 ≤ jOf c b := by unfold jOf; split <;> omega
theorem jOf_t {c : Nat} {b : Bool} (h : b = true) : 10 * c + 55 = 5 * jOf c b + 50 := by unfold jOf; rw [if_pos h]; omega
theorem jOf_f {c : Nat} {b : Bool} (h : b = false) : 10 * c + 60 = 5 * jOf c b + 50 := by unfold jOf; rw [if_neg (by rw [h]; decide)]; omega
def sFg1 (S : jS) (c : Nat) : jS := pI (pI S (5 * (2 * c + 1) + 49) 8 0) (5 * (2 * c + 2) + 49) 8 0
def sForget (S : jS) : jS := sFg1 (sFg1 (sFg1 (pI (pI S 38 5 0) 43 3 0) 0) 1) 2
def sPD (S : jS) (n nr : Nat) (w : Nat → Nat) : jS := sDelays (sPaths S n nr) w n 43
noncomputable def sTm (X : jS) (n j kl ke : Nat) (p : Nat → Int) : jS := if sI X (5 * j + 49) 8 = 0 then pI (sT X j (mRk X j kl ke n p (tOf X j))) (5 * j + 49) 8 1 else X
theorem sTm_0 {X : jS} {n j kl ke : Nat} {p : Nat → Int} (h : sI X (5 * j + 49) 8 = 0) : sTm X n j kl ke p = pI (sT X j (mRk X j kl ke n p (tOf X j))) (5 * j + 49) 8 1 := if_pos h
theorem sTm_1 {X : jS} {n j kl ke : Nat} {p : Nat → Int} (h : ¬ sI X (5 * j + 49) 8 = 0) : sTm X n j kl ke p = X := if_neg h
theorem TS_tm (X : jS) (n j kl ke : Nat) (p : Nat → Int) : TS X (sTm X n j kl ke p) := by
  unfold sTm
  split
  · exact TS_t (TS_T _ _ _) (TS_I _ (by omega))
  · exact TS_r X
theorem TS_pd (S : jS) (n nr : Nat) (w : Nat → Nat) : TS S (sPD S n nr w) := TS_t (TS_paths S n nr) (TS_delays _ w n (Or.inl rfl))
theorem sPaths_D (S : jS) (n nr a : Nat) : sD (sPaths S n nr) a = sD S a := by
  unfold sPaths
  split
  · exact congrFun (congrArg Prod.fst (((sChks_c (sPrep S n n) n nr n).2).trans (sPrep_c S n n).2)) a
  · rfl
theorem sPD_D {S : jS} {n nr a : Nat} {w : Nat → Nat} (h : 49 ≤ a) : sD (sPD S n nr w) a = sD S a := by
  rw [← sPaths_D S n nr a]
  unfold sPD sDelays
  split
  · exact up1_ne _ _ (by omega)
  · rfl
theorem sPD_G {S : jS} {n nr j : Nat} {w : Nat → Nat} (h : Grid S j) : Grid (sPD S n nr w) j := Grid_c (fun a h1 _ => sPD_D (by omega)) h
section T9
variable {l : Launch} {D : va_G} {ad : Nat → Nat} {tc : Nat → ClassId} {L : Nat} {xs : Nat → Int32} {S : jS} {E : List j_C} {sl x : Nat}
set_option maxRecDepth 20000 in
theorem lp_forget {c : Nat} {r : Option Value} {h' : j_H} (hc : c < 3) (K : Rn l D ad tc L xs mX0_forget 0 0 43 [(1, .int (nI c)), (0, .ref 36)] [] (wd (sFg1 S c) E, sl) r h') : Rn l D ad tc L xs mX0_forget 0 0 23 [(1, .int (nI c)), (0, .ref 36)] [] (wd S E, sl) r h' := by
  refine rn_aload_n dX0_forget_23 rfl ?_
  refine rn_getfield dX0_forget_24 fo_X0_11 h_an rfl ?_
  refine rn_iload_n dX0_forget_27 rfl ?_
  refine rn_aaload dX0_forget_28 h_lates rfl (vp_in_nI (by omega) (by decide)) (tref_at rfl (by omega)) ?_
  refine rn_topr (y := 5 * (2 * c + 1) + 50) (by omega) ?_
  refine rn_iconst (v := 0) dX0_forget_29 rfl ?_
  refine rn_pI (a := 5 * (2 * c + 1) + 49) dX0_forget_30 fp_X0_55 (by omega) cc_tim cc_timI (by simp) ⟨rfl, rfl⟩ ⟨_, _, _, rfl, rfl⟩ ?_
  refine rn_aload_n dX0_forget_33 rfl ?_
  refine rn_getfield dX0_forget_34 fo_X0_17 h_an rfl ?_
  refine rn_iload_n dX0_forget_37 rfl ?_
  refine rn_aaload dX0_forget_38 h_earlies rfl (vp_in_nI (by omega) (by decide)) (tref_at rfl (by omega)) ?_
  refine rn_topr (y := 5 * (2 * c + 2) + 50) (by omega) ?_
  refine rn_iconst (v := 0) dX0_forget_39 rfl ?_
  refine rn_pI (a := 5 * (2 * c + 2) + 49) dX0_forget_40 fp_X0_55 (by omega) cc_tim cc_timI (by simp) ⟨rfl, rfl⟩ ⟨_, _, _, rfl, rfl⟩ ?_
  exact rn_subg rfl K
set_option maxRecDepth 20000 in
theorem c_X0_forget  : Cn l D ad tc L xs mX0_forget 0 0 [.ref 36] (wd S E, sl) none (wd (sForget S) E, sl) := by
  refine cn_of (lv0 := [(0, .ref 36)]) (by decide +kernel) rfl (fun _ => by simp [lg_sl, j_v, Value.category]) (fun _ => rfl) ?_
  refine rn_aload_n dX0_forget_0 rfl ?_
  refine rn_getfield dX0_forget_1 fo_X0_29 h_an rfl ?_
  refine rn_iconst (v := 0) dX0_forget_4 rfl ?_
  refine rn_pI dX0_forget_5 fp_X0_50 (by decide) rfl rfl (by simp) ⟨rfl, rfl⟩ ⟨_, _, _, rfl, rfl⟩ ?_
  refine rn_aload_n dX0_forget_8 rfl ?_
  refine rn_getfield dX0_forget_9 fo_X0_36 h_an rfl ?_
  refine rn_iconst (v := 0) dX0_forget_12 rfl ?_
  refine rn_pI (a := 43) dX0_forget_13 fp_X0_54 (by decide) (cc_del (Or.inl rfl)) (cc_delI (Or.inl rfl)) (by simp) ⟨rfl, rfl⟩ ⟨_, _, _, rfl, rfl⟩ ?_
  refine rn_iconst (v := 0) dX0_forget_16 rfl ?_
  refine rn_istore_n dX0_forget_17 (by decide) rfl ?_
  refine rn_iload_n dX0_forget_18 rfl ?_
  refine rn_iconst (v := 3) dX0_forget_19 rfl ?_
  refine rn_icmp_ge (tgt := 49) dX0_forget_20 rfl (fun q => absurd q (by decide)) (fun _ => ?_)
  refine rn_subg (lv' := [(1, .int (nI 0)), (0, .ref 36)]) rfl (lp_forget (by decide) ?_)
  refine rn_iinc (v := 1) dX0_forget_43 rfl (by decide) (by decide) rfl ?_
  refine rn_goto (tgt := 18) dX0_forget_46 rfl ?_
  refine rn_iload_n dX0_forget_18 rfl ?_
  refine rn_iconst (v := 3) dX0_forget_19 rfl ?_
  refine rn_icmp_ge (tgt := 49) dX0_forget_20 rfl (fun q => absurd q (by decide)) (fun _ => ?_)
  refine rn_subg (lv' := [(1, .int (nI 1)), (0, .ref 36)]) rfl (lp_forget (by decide) ?_)
  refine rn_iinc (v := 2) dX0_forget_43 rfl (by decide) (by decide) rfl ?_
  refine rn_goto (tgt := 18) dX0_forget_46 rfl ?_
  refine rn_iload_n dX0_forget_18 rfl ?_
  refine rn_iconst (v := 3) dX0_forget_19 rfl ?_
  refine rn_icmp_ge (tgt := 49) dX0_forget_20 rfl (fun q => absurd q (by decide)) (fun _ => ?_)
  refine rn_subg (lv' := [(1, .int (nI 2)), (0, .ref 36)]) rfl (lp_forget (by decide) ?_)
  refine rn_iinc (v := 3) dX0_forget_43 rfl (by decide) (by decide) rfl ?_
  refine rn_goto (tgt := 18) dX0_forget_46 rfl ?_
  refine rn_iload_n dX0_forget_18 rfl ?_
  refine rn_iconst (v := 3) dX0_forget_19 rfl ?_
  refine rn_icmp_ge (tgt := 49) dX0_forget_20 rfl (fun _ => ?_) (fun q => absurd (by decide) q)
  exact rn_ret dX0_forget_49 trivial rfl
end T9
section T10
variable {l : Launch} {D : va_G} {ad : Nat → Nat} {tc : Nat → ClassId} {L : Nat} {xs : Nat → Int32} {S : jS} {E : List j_C} {sl x : Nat}
set_option maxRecDepth 20000 in
theorem c_X0_paths {n nr nc nk : Nat} (hT : Told S n nr nc nk) : Cn l D ad tc L xs mX0_paths 4 96 [.ref 36] (wd S E, sl) (some (.ref 39)) (wd (sPaths S n nr) E, sl) := by
  refine cn_of (lv0 := [(0, .ref 36)]) (by decide +kernel) ⟨_, rfl, Or.inl ⟨_, rfl⟩⟩ (fun _ => by simp [lg_sl, j_v, Value.category]) (fun _ => rfl) ?_
  refine rn_aload_n dX0_paths_0 rfl ?_
  refine rn_getfield dX0_paths_1 fo_X0_29 h_an rfl ?_
  refine rn_callV dX0_paths_4 cv_X0_56 (c_X6_prepare hT) rfl h_paths rfl rfl (by decide) (by decide) rfl (Nat.le_of_ble_eq_true rfl) ?_
  refine rn_aload_n dX0_paths_7 rfl ?_
  refine rn_getfield dX0_paths_8 fo_X0_29 h_an rfl ?_
  exact rn_ret dX0_paths_11 trivial rfl
set_option maxRecDepth 20000 in
theorem c_X0_delays {n nr nc nk : Nat} {w : Nat → Nat} (hT : Told S n nr nc nk) (hw : Tw S w) : Cn l D ad tc L xs mX0_delays 4 88 [.ref 36] (wd S E, sl) (some (.ref 44)) (wd (sDelays S w n 43) E, sl) := by
  refine cn_of (lv0 := [(0, .ref 36)]) (by decide +kernel) ⟨_, rfl, Or.inl ⟨_, rfl⟩⟩ (fun _ => by simp [lg_sl, j_v, Value.category]) (fun _ => rfl) ?_
  refine rn_aload_n dX0_delays_0 rfl ?_
  refine rn_getfield dX0_delays_1 fo_X0_36 h_an rfl ?_
  refine rn_callV dX0_delays_4 cv_X0_59 (c_X4_prepare (Or.inl rfl) hT hw) rfl (h_del (Or.inl rfl)) rfl rfl (by decide) (by decide) rfl (Nat.le_of_ble_eq_true rfl) ?_
  refine rn_aload_n dX0_delays_7 rfl ?_
  refine rn_getfield dX0_delays_8 fo_X0_36 h_an rfl ?_
  exact rn_ret dX0_delays_11 trivial rfl
set_option maxRecDepth 20000 in
theorem c_X0_timing {n nr nc nk c kl ke : Nat} {w : Nat → Nat} {p : Nat → Int} {b : Bool} (hT : Told S n nr nc nk) (hw : Tw S w) (hc : c < 3) (hkl : sD S (c + 10) 0 = dv (512 * kl)) (hke : sD S (c + 10) 1 = dv (512 * ke)) (hl1 : kl ≤ 16) (hk1 : ke ≤ kl) (hC : CkH (sPD S n nr w) n) (hP : rises (sPD S n nr w) (jOf c b) n p) (hG : Grid S (jOf c b)) : Cn l D ad tc L xs mX0_timing 4 107 [.ref 36, .int (nI c), .int (bI b)] (wd S E, sl) (some (.ref (5 * jOf c b + 50))) (wd (sTm (sPD S n nr w) n (jOf c b) kl ke p) E, sl) := by
  refine cn_of (lv0 := [(0, .ref 36), (1, .int (nI c)), (2, .int (bI b))]) (by decide +kernel) ⟨_, rfl, Or.inl ⟨_, rfl⟩⟩ (fun _ => by simp [lg_sl, j_v, Value.category]) (fun _ => rfl) ?_
  have hj := jOf_l (b := b) hc
  have hT1 := Told_s (TS_paths S n nr) hT
  have hw1 := Tw_s (TS_paths S n nr) hw
  have hT2 := Told_s (TS_pd S n nr w) hT
  have hkl2 := ((TS_pd S n nr w).2.1 (c + 10) 0 (by omega)).trans hkl
  have hke2 := ((TS_pd S n nr w).2.1 (c + 10) 1 (by omega)).trans hke
  have hG2 := sPD_G (n := n) (nr := nr) (w := w) hG
  refine rn_aload_n dX0_timing_0 rfl ?_
  refine rn_getfield dX0_timing_1 fo_X0_29 h_an rfl ?_
  refine rn_callV dX0_timing_4 cv_X0_56 (c_X6_prepare hT) rfl h_paths rfl rfl (by decide) (by decide) rfl (Nat.le_of_ble_eq_true rfl) ?_
  refine rn_aload_n dX0_timing_7 rfl ?_
  refine rn_getfield dX0_timing_8 fo_X0_36 h_an rfl ?_
  refine rn_callV dX0_timing_11 cv_X0_59 (c_X4_prepare (Or.inl rfl) hT1 hw1) rfl (h_del (Or.inl rfl)) rfl rfl (by decide) (by decide) rfl (Nat.le_of_ble_eq_true rfl) ?_
  rw [show sDelays (sPaths S n nr) w n 43 = sPD S n nr w from rfl]
  refine rn_iload_n dX0_timing_14 rfl ?_
  refine rn_if_eq (tgt := 27) dX0_timing_15 rfl (fun q1 => ?_) (fun q1 => ?_)
  · rw [bI_0] at q1
    have hb := q1
    refine rn_aload_n dX0_timing_27 rfl ?_
    refine rn_getfield dX0_timing_28 fo_X0_17 h_an rfl ?_
    refine rn_iload_n dX0_timing_31 rfl ?_
    refine rn_aaload dX0_timing_32 h_earlies rfl (vp_in_nI (by omega) (by decide)) (tref_at rfl (by omega)) ?_
    refine rn_topr (jOf_f hb) ?_
    refine rn_astore_n dX0_timing_33 (by decide) rfl ?_
    refine rn_aload_n dX0_timing_34 rfl ?_
    refine rn_getfield dX0_timing_35 fo_X0_55 (h_tim (by omega)) rfl ?_
    refine rn_if_ne (tgt := 54) dX0_timing_38 rfl (fun q2 => ?_) (fun q2 => ?_)
    · rw [sTm_1 q2]
      refine rn_aload_n dX0_timing_54 rfl ?_
      exact rn_ret dX0_timing_55 trivial rfl
    · rw [sTm_0 q2]
      refine rn_aload_n dX0_timing_41 rfl ?_
      refine rn_aload_n dX0_timing_42 rfl ?_
      refine rn_getfield dX0_timing_43 fo_X0_20 h_an rfl ?_
      refine rn_getfield dX0_timing_46 fo_X0_60 h_chip rfl ?_
      refine rn_iload_n dX0_timing_49 rfl ?_
      refine rn_aaload dX0_timing_50 h_corners rfl (vp_in_nI (by omega) (by decide)) (refs_at rfl (by omega) (by decide)) ?_
      refine rn_eq (h2 := (wd (sT (sPD S n nr w) (jOf c b) (tOf (sPD S n nr w) (jOf c b))) E, sl)) (by rw [sT_id hG2.1]) ?_
      refine rn_callV dX0_timing_51 cv_X0_66 (c_X8_reckon hj hc hkl2 hke2 hl1 hk1 hT2 hC hP hG2.2) rfl (h_tim (by omega)) rfl rfl (by decide) (by decide) rfl (Nat.le_of_ble_eq_true rfl) ?_
      refine rn_aload_n dX0_timing_54 rfl ?_
      exact rn_ret dX0_timing_55 trivial rfl
  · rw [bI_n] at q1
    have hb := q1
    refine rn_aload_n dX0_timing_18 rfl ?_
    refine rn_getfield dX0_timing_19 fo_X0_11 h_an rfl ?_
    refine rn_iload_n dX0_timing_22 rfl ?_
    refine rn_aaload dX0_timing_23 h_lates rfl (vp_in_nI (by omega) (by decide)) (tref_at rfl (by omega)) ?_
    refine rn_topr (jOf_t hb) ?_
    refine rn_goto (tgt := 33) dX0_timing_24 rfl ?_
    refine rn_astore_n dX0_timing_33 (by decide) rfl ?_
    refine rn_aload_n dX0_timing_34 rfl ?_
    refine rn_getfield dX0_timing_35 fo_X0_55 (h_tim (by omega)) rfl ?_
    refine rn_if_ne (tgt := 54) dX0_timing_38 rfl (fun q3 => ?_) (fun q3 => ?_)
    · rw [sTm_1 q3]
      refine rn_aload_n dX0_timing_54 rfl ?_
      exact rn_ret dX0_timing_55 trivial rfl
    · rw [sTm_0 q3]
      refine rn_aload_n dX0_timing_41 rfl ?_
      refine rn_aload_n dX0_timing_42 rfl ?_
      refine rn_getfield dX0_timing_43 fo_X0_20 h_an rfl ?_
      refine rn_getfield dX0_timing_46 fo_X0_60 h_chip rfl ?_
      refine rn_iload_n dX0_timing_49 rfl ?_
      refine rn_aaload dX0_timing_50 h_corners rfl (vp_in_nI (by omega) (by decide)) (refs_at rfl (by omega) (by decide)) ?_
      refine rn_eq (h2 := (wd (sT (sPD S n nr w) (jOf c b) (tOf (sPD S n nr w) (jOf c b))) E, sl)) (by rw [sT_id hG2.1]) ?_
      refine rn_callV dX0_timing_51 cv_X0_66 (c_X8_reckon hj hc hkl2 hke2 hl1 hk1 hT2 hC hP hG2.2) rfl (h_tim (by omega)) rfl rfl (by decide) (by decide) rfl (Nat.le_of_ble_eq_true rfl) ?_
      refine rn_aload_n dX0_timing_54 rfl ?_
      exact rn_ret dX0_timing_55 trivial rfl
end T10
end
section
/-! The bits of a row; what the paths' rows say -/
/-- bit s of a word -/
def bitW (x : Int32) (s : Nat) : Bool := decide ((x >>> (nI s &&& 31)) &&& 1 ≠ 0)
theorem bitR_W (R : Nat → Int32) (s i : Nat) : bitR R s i = bitW (R i) s := rfl
theorem bw_k {x k : Int32} : decide ((x >>> k) &&& 1 ≠ 0) = (x >>> k).toBitVec.getLsbD 0 := by
  have h : ((x >>> k) &&& 1 = 0) ↔ (x >>> k).toBitVec.getLsbD 0 = false := by
    rw [← Int32.toBitVec_inj]
    constructor
    · intro h
      have := congrArg (fun z => z.getLsbD 0) h
      simpa using this
    · intro h
      apply BitVec.eq_of_getLsbD_eq
      intro i hi
      have hone : (1 : Int32).toBitVec = 1#32 := rfl
      have hzero : (0 : Int32).toBitVec = 0#32 := rfl
      rw [Int32.toBitVec_and, BitVec.getLsbD_and, hone, hzero, BitVec.getLsbD_one, BitVec.getLsbD_zero]
      by_cases h0 : i = 0
      · subst h0
        rw [h]
        rfl
      · simp [h0]
  by_cases q : (x >>> k) &&& 1 = 0
  · rw [h.mp q]
    simp [q]
  · rw [show decide (¬ ((x >>> k) &&& 1 = 0)) = true by simp [q]]
    cases hb : (x >>> k).toBitVec.getLsbD 0
    · exact absurd (h.mpr hb) q
    · rfl
theorem bitW_at (x : Int32) {s : Nat} (hs : s < 16) : bitW x s = x.toBitVec.getLsbD s := by
  unfold bitW
  rw [bw_k]
  have h : ((nI s &&& 31).toBitVec.smod 32) = BitVec.ofNat 32 s := by
    revert s
    decide +kernel
  rw [Int32.toBitVec_shiftRight, h, BitVec.sshiftRight_eq', BitVec.getLsbD_sshiftRight]
  have h2 : (BitVec.ofNat 32 s).toNat = s := by simp; omega
  rw [h2]
  simp
  omega
theorem bitW_or (x y : Int32) {s : Nat} (hs : s < 16) : bitW (x ||| y) s = (bitW x s || bitW y s) := by
  rw [bitW_at _ hs, bitW_at _ hs, bitW_at _ hs, Int32.toBitVec_or, BitVec.getLsbD_or]
theorem bitW_one : ∀ m, m < 16 → ∀ s, s < 16 → bitW (1 <<< (nI m &&& 31)) s = decide (s = m) := by decide +kernel
theorem bitW_0 : ∀ s, s < 16 → bitW 0 s = false := by decide +kernel
/-! check's rows -/
theorem mChk_c {S S' : jS} (h1 : S'.1 = S.1) (h2 : S'.2.2 = S.2.2) {R : Nat → Int32} {nr s e : Nat} : mChk S' R nr s e = mChk S R nr s e := by
  obtain ⟨a, b, c⟩ := S
  obtain ⟨a', b', c'⟩ := S'
  cases h1
  cases h2
  unfold mChk mSort
  rw [mWin_c (S := (a, b, c)) (S' := (a, b', c)) rfl]
  rfl
theorem mGap_c {S S' : jS} (h1 : S'.1 = S.1) (h2 : S'.2.2 = S.2.2) {nr s e : Nat} : mGap S' s e nr = mGap S s e nr := by
  obtain ⟨a, b, c⟩ := S
  obtain ⟨a', b', c'⟩ := S'
  cases h1
  cases h2
  unfold mGap mSort
  rw [mWin_c (S := (a, b, c)) (S' := (a, b', c)) rfl]
theorem mCB_c {S S' : jS} (h1 : S'.1 = S.1) (h2 : S'.2.2 = S.2.2) {R : Nat → Int32} {nr e : Nat} : ∀ m, mCB S' R nr e m = mCB S R nr e m
  | 0 => rfl
  | m + 1 => by
    unfold mCB
    rw [mChk_c h1 h2, mCB_c h1 h2 m]
theorem mCB_bit {S : jS} {R : Nat → Int32} {nr e s : Nat} (hs : s < 16) : ∀ m, m ≤ 16 → bitW (mCB S R nr e m) s = (decide (s < m) && mChk S R nr s e)
  | 0, _ => by
    rw [show decide (s < 0) = false by simp, Bool.false_and]
    exact bitW_0 s hs
  | m + 1, h => by
    have ih := mCB_bit (S := S) (R := R) (nr := nr) (e := e) hs m (by omega)
    unfold mCB
    cases hc : mChk S R nr m e with
    | true =>
      rw [if_pos rfl, bitW_or _ _ hs, ih, bitW_one m (by omega) s hs]
      by_cases h1 : s = m
      · subst h1
        simp [hc]
      · by_cases h2 : s < m
        · simp [h1, h2, show s < m + 1 by omega]
        · simp [h1, h2, show ¬ s < m + 1 by omega]
    | false =>
      rw [if_neg (by decide), ih]
      by_cases h1 : s = m
      · subst h1
        simp [hc]
      · by_cases h2 : s < m
        · simp [h2, show s < m + 1 by omega]
        · simp [h2, show ¬ s < m + 1 by omega]
theorem sChks_39 (S : jS) (n nr : Nat) : ∀ m, (sChks S n nr m).2.1 39 = S.2.1 39
  | 0 => rfl
  | m + 1 => sChks_39 S n nr m
theorem sChks_41 (S : jS) (n nr : Nat) : ∀ m, (sChks S n nr m).2.1 41 = S.2.1 41
  | 0 => rfl
  | m + 1 => sChks_41 S n nr m
theorem sChks_40 (S : jS) (n nr e : Nat) : ∀ m, (sChks S n nr m).2.1 40 e = if e < m then mCB S (S.2.1 39) nr e n else S.2.1 40 e
  | 0 => rfl
  | m + 1 => by
    have ih := sChks_40 S n nr e m
    show upd ((sChks S n nr m).2.1 40) m (mCB (sChks S n nr m) ((sChks S n nr m).2.1 39) nr m n) e = _
    rw [sChks_39, mCB_c (sChks_c S n nr m).1 (sChks_c S n nr m).2]
    unfold upd
    by_cases h : e = m
    · subst h
      rw [if_pos rfl, if_pos (by omega)]
    · rw [if_neg h, ih]
      by_cases h2 : e < m
      · rw [if_pos h2, if_pos (by omega)]
      · rw [if_neg h2, if_neg (by omega)]
theorem sChks_42 (S : jS) (n nr x : Nat) : ∀ m, (sChks S n nr m).2.1 42 x = if x % 16 < m ∧ x / 16 < n ∧ mChk S (S.2.1 39) nr (x / 16) (x % 16) = true then mGap S (x / 16) (x % 16) nr else S.2.1 42 x
  | 0 => by rw [if_neg (fun z => absurd z.1 (by omega))]; rfl
  | m + 1 => by
    have ih := sChks_42 S n nr x m
    show gC (sChks S n nr m) ((sChks S n nr m).2.1 39) nr m ((sChks S n nr m).2.1 42) n x = _
    unfold gC
    rw [sChks_39, mChk_c (sChks_c S n nr m).1 (sChks_c S n nr m).2, mGap_c (sChks_c S n nr m).1 (sChks_c S n nr m).2, ih]
    by_cases h : x % 16 = m
    · by_cases h2 : x / 16 < n ∧ mChk S (S.2.1 39) nr (x / 16) m = true
      · rw [if_pos ⟨h, h2.1, h2.2⟩, if_pos ⟨by omega, h2.1, by rw [h]; exact h2.2⟩, h]
      · rw [if_neg (fun z => h2 z.2), if_neg (fun z => h2 ⟨z.2.1, by rw [← h]; exact z.2.2⟩), if_neg (fun z => h2 ⟨z.2.1, by rw [← h]; exact z.2.2⟩)]
    · rw [if_neg (fun z => h z.1)]
      by_cases h2 : x % 16 < m ∧ x / 16 < n ∧ mChk S (S.2.1 39) nr (x / 16) (x % 16) = true
      · rw [if_pos h2, if_pos ⟨by omega, h2.2⟩]
      · rw [if_neg h2, if_neg (fun z => h2 ⟨by omega, z.2⟩)]
theorem mSort_r {S : jS} {n nr nc nk s e : Nat} (hT : Told S n nr nc nk) : mSort S s e nr = 0 ∨ ∃ m : Nat, 1 ≤ m ∧ m ≤ 4 ∧ mSort S s e nr = nI m := by
  unfold mSort
  by_cases h : (mWin S (nI s) (nI e) nr).1 = -1
  · rw [if_pos h]
    exact Or.inr ⟨1, by decide, by decide, rfl⟩
  · rw [if_neg h]
    obtain ⟨i, hi, hw⟩ := (mWin_r S (nI s) (nI e) nr).resolve_left h
    have hnr := hT.2.1.2
    rw [hw, nI_clamp (by omega)]
    rcases hT.2.2.2.2.2.2.2.2.2 i (by omega) with h0 | ⟨m, h1, h2, h3⟩
    · exact Or.inl h0
    · exact Or.inr ⟨m, by omega, h2, h3⟩
theorem mGap_r {S : jS} {n nr nc nk s e : Nat} (hT : Told S n nr nc nk) (hs : s < 16) (he : e < 16) (h0 : mSort S s e nr ≠ 0) : ∃ k : Nat, k ≤ 1000 ∧ mGap S s e nr = nI k := by
  obtain ⟨m, h1, h2, h3⟩ := (mSort_r hT).resolve_left h0
  have hv := hT.2.2.2.2.1
  have hK := hT.2.2.2.2.2.2.2.1
  obtain ⟨p, hp1, hp2⟩ := (hK _ (hv s hs)).1
  obtain ⟨q, hq1, hq2⟩ := (hK _ (hv e he)).1
  unfold mGap
  rw [h3, hp2, hq2, nI_clamp (by omega), nI_clamp (by omega), show nI m - 1 = nI (m - 1) by
    rcases (show m = 1 ∨ m = 2 ∨ m = 3 ∨ m = 4 by omega) with rfl | rfl | rfl | rfl <;> decide, nI_mul, nI_add]
  refine ⟨_, ?_, rfl⟩
  have hg : Nat.gcd p q ≤ 160 := by
    by_cases hz : q = 0
    · subst hz
      rw [Nat.gcd_zero_right]
      exact hp1
    · have := Nat.gcd_le_right p (Nat.pos_of_ne_zero hz)
      omega
  have hm : (m - 1) * q ≤ 3 * 160 := Nat.mul_le_mul (by omega) hq1
  omega
/-- what check leaves holds what CkH asks -/
theorem CkH_chks {S : jS} {n nr nc nk : Nat} (hT : Told S n nr nc nk) {X : jS} (h1 : X.1 = S.1) (h2 : X.2.2 = S.2.2) {v : Int32} : CkH (pI (sChks X n nr n) 38 5 v) n := by
  have hn := hT.1.2
  have hX := Told_c h1 h2 hT
  intro s e hs he hb
  replace hb : bitW ((sChks X n nr n).2.1 40 e) s = true := hb
  rw [sChks_40, if_pos he, mCB_bit (by omega) n (by omega)] at hb
  simp only [Bool.and_eq_true, decide_eq_true_eq] at hb
  have hck := hb.2
  have hk2 := hck
  unfold mChk mCome at hk2
  simp only [Bool.and_eq_true, decide_eq_true_eq] at hk2
  have hfe : fe1 (pI (sChks X n nr n) 38 5 v) e = fe1 X e := by
    show up2 (sChks X n nr n).1 38 5 v (e + 13) 1 = _
    rw [up2_k _ _ (by omega), (sChks_c X n nr n).1]
  refine ⟨?_, ?_⟩
  · rw [hfe]
    exact (hX.2.2.2.2.2.1 e he).2.1.resolve_left hk2.1.1.1.2
  · show ∃ k : Nat, k ≤ 1000 ∧ (sChks X n nr n).2.1 42 (s * 16 + e) = nI k
    rw [sChks_42, show (s * 16 + e) % 16 = e by omega, show (s * 16 + e) / 16 = s by omega, if_pos ⟨he, hs, hck⟩]
    exact mGap_r hX (by omega) (by omega) hk2.2
theorem CkH_paths {S : jS} {n nr nc nk : Nat} (hT : Told S n nr nc nk) (h : sI S 38 5 = 0 ∨ CkH S n) : CkH (sPaths S n nr) n := by
  unfold sPaths
  by_cases h0 : sI S 38 5 = 0
  · rw [if_pos h0]
    exact CkH_chks hT (sPrep_c S n n).1 (sPrep_c S n n).2
  · rw [if_neg h0]
    exact h.resolve_left h0
end
section
/-! Paths: what the rows of reach and counts say -/
theorem nI_ne1 {a : Nat} (h : a < 2 ^ 31) : nI a ≠ -1 := fun z => by
  have := congrArg Int32.toInt z
  rw [nI_toInt h, show (-1 : Int32).toInt = -1 by decide] at this
  omega
def rf (R : Nat → Int32) (n : Nat) (v : Int32) : Int32 := if 0 ≤ v ∧ v < nI n then R v.toNatClampNeg else 0
/-- a node's row of reach, out of those before it -/
def mR (S : jS) (n : Nat) (R : Nat → Int32) (m : Nat) : Int32 := if stB S m = true then 1 <<< (nI m &&& 31) else if gaB S m = true then (0 ||| rf R n (fe1 S m)) ||| rf R n (fe2 S m) else 0
/-- a feed, or none: below m -/
def fB' (v : Int32) (m : Nat) : Prop := v = -1 ∨ ∃ a, a < m ∧ v = nI a
theorem rf_c {R R' : Nat → Int32} {n m : Nat} {v : Int32} (hm : m ≤ 16) (hv : fB' v m) (h : ∀ i, i < m → R' i = R i) : rf R' n v = rf R n v := by
  unfold rf
  rcases hv with rfl | ⟨a, ha, rfl⟩
  · rw [if_neg (fun z => absurd z.1 (by decide)), if_neg (fun z => absurd z.1 (by decide))]
  · rw [nI_clamp (by omega), h a ha]
theorem mR_c {S : jS} {R R' : Nat → Int32} {n m : Nat} (hm : m ≤ 16) (h1 : gaB S m = true → fB' (fe1 S m) m ∧ fB' (fe2 S m) m) (h : ∀ i, i < m → R' i = R i) : mR S n R' m = mR S n R m := by
  unfold mR
  split
  · rfl
  · split
    · next hg => rw [rf_c hm (h1 hg).1 h, rf_c hm (h1 hg).2 h]
    · rfl
theorem or0 (x : Int32) : x ||| 0 = x := by simp
theorem sJoin_39 {S : jS} {n g : Nat} {v : Int32} : (sJoin S n g v).2.1 39 = upd (S.2.1 39) g (S.2.1 39 g ||| rf (S.2.1 39) n v) := by
  unfold sJoin rf
  by_cases h : 0 ≤ v ∧ v < nI n
  · rw [if_pos h, if_pos h]
    rfl
  · rw [if_neg h, if_neg h, or0]
    funext x
    unfold upd
    by_cases hx : x = g
    · rw [if_pos hx, hx]
    · rw [if_neg hx]
theorem upd_ne {f : Nat → Int32} {k i : Nat} {a : Int32} (h : i ≠ k) : upd f k a i = f i := if_neg h
theorem sN2_39 {X : jS} {n m : Nat} (hm : m < 16) (h1 : gaB X m = true → fB' (fe1 X m) m ∧ fB' (fe2 X m) m) : (sN2 X n m).2.1 39 = upd (X.2.1 39) m (mR X n (X.2.1 39) m) := by
  have hN : (sN1 X n m).2.1 39 = upd (X.2.1 39) m 0 := rfl
  unfold sN2 mR
  by_cases hs : stB X m = true
  · rw [if_pos hs, if_pos hs]
    show upd (upd (X.2.1 39) m 0) m _ = _
    exact upd_upd
  · rw [if_neg hs, if_neg hs]
    by_cases hg : gaB X m = true
    · rw [if_pos hg, if_pos hg, sJoin_39, sJoin_39, hN]
      have hf := h1 hg
      rw [rf_c (R := upd (upd (X.2.1 39) m 0) m (upd (X.2.1 39) m 0 m ||| rf (upd (X.2.1 39) m 0) n (fe1 X m))) (R' := X.2.1 39) (by omega) hf.2 (fun i hi => by rw [upd_ne (by omega), upd_ne (by omega)])] 
      rw [← rf_c (R := upd (X.2.1 39) m 0) (R' := X.2.1 39) (by omega) hf.1 (fun i hi => by rw [upd_ne (by omega)])]
      rw [upd_self, upd_self, upd_upd, upd_upd]
    · rw [if_neg hg, if_neg hg]
      exact hN
/-- the row of each node is what mR says -/
def RF (S : jS) (n : Nat) (R : Nat → Int32) (m : Nat) : Prop := ∀ i, i < m → R i = mR S n R i
theorem fe_told {S : jS} {n nr nc nk i : Nat} (hT : Told S n nr nc nk) (hi : i < n) : gaB S i = true → fB' (fe1 S i) i ∧ fB' (fe2 S i) i := fun h => fe_gate hT hi h
theorem mR_s {S S' : jS} (h : S'.1 = S.1) {n m : Nat} {R : Nat → Int32} : mR S' n R m = mR S n R m := by
  obtain ⟨a, b⟩ := S
  obtain ⟨a', b'⟩ := S'
  cases h
  rfl
theorem sPrep_RF {S : jS} {n nr nc nk : Nat} (hT : Told S n nr nc nk) : ∀ m, m ≤ n → RF S n ((sPrep S n m).2.1 39) m
  | 0, _ => fun i hi => absurd hi (by omega)
  | m + 1, h => by
    have hn := hT.1.2
    have ih := sPrep_RF hT m (by omega)
    have hc := sPrep_c S n m
    have hT' := Told_c hc.1 hc.2 hT
    have hs : (sPrep S n (m + 1)).2.1 39 = upd ((sPrep S n m).2.1 39) m (mR S n ((sPrep S n m).2.1 39) m) := by
      rw [← mR_s hc.1]
      exact sN2_39 (by omega) (fe_told hT' (by omega))
    intro i hi
    rw [hs]
    have hx : ∀ k, k < m → upd ((sPrep S n m).2.1 39) m (mR S n ((sPrep S n m).2.1 39) m) k = (sPrep S n m).2.1 39 k := fun k hk => upd_ne (by omega)
    by_cases him : i = m
    · subst him
      rw [upd_self]
      exact (mR_c (by omega) (fe_told hT (by omega)) hx).symm
    · rw [upd_ne him, ih i (by omega)]
      exact (mR_c (by omega) (fe_told hT (by omega)) (fun k hk => hx k (by omega))).symm
theorem rf_bit {R : Nat → Int32} {n s : Nat} {v : Int32} (hs : s < 16) (hn : n ≤ 16) : bitW (rf R n v) s = true ↔ ∃ a, a < n ∧ v = nI a ∧ bitW (R a) s = true := by
  unfold rf
  by_cases h : 0 ≤ v ∧ v < nI n
  · rw [if_pos h]
    obtain ⟨a, ha, rfl⟩ := nI_below h.1 h.2 (by omega)
    rw [nI_clamp (by omega)]
    constructor
    · intro hb
      exact ⟨a, ha, rfl, hb⟩
    · intro ⟨b, hb, he, hw⟩
      rw [(nI_eq (by omega) (by omega)).mp he]
      exact hw
  · rw [if_neg h, bitW_0 s hs]
    constructor
    · intro z
      exact absurd z (by decide)
    · intro ⟨a, ha, he, _⟩
      subst he
      exact absurd ⟨Int32.not_lt.mp (nI_pos (by omega)), nI_lt ha (by omega)⟩ h
/-- a start reaches a node: it is it, or it reaches one of a gate's feeds -/
theorem RF_bit {S : jS} {n m s i : Nat} {R : Nat → Int32} (hR : RF S n R m) (hs : s < 16) (hn : n ≤ 16) (him : i < m) (hi : i < 16) : bitW (R i) s = true ↔ (stB S i = true ∧ s = i) ∨ (stB S i = false ∧ gaB S i = true ∧ ∃ a, a < n ∧ (fe1 S i = nI a ∨ fe2 S i = nI a) ∧ bitW (R a) s = true) := by
  rw [hR i him]
  unfold mR
  cases h : stB S i with
  | true =>
    rw [if_pos rfl, bitW_one i hi s hs]
    simp
  | false =>
    rw [if_neg (by decide)]
    cases hg : gaB S i with
    | true =>
      rw [if_pos rfl, bitW_or _ _ hs, bitW_or _ _ hs, bitW_0 s hs, Bool.false_or, Bool.or_eq_true, rf_bit hs hn, rf_bit hs hn]
      constructor
      · rintro (⟨a, h1, h2, h3⟩ | ⟨a, h1, h2, h3⟩)
        · exact Or.inr ⟨rfl, rfl, a, h1, Or.inl h2, h3⟩
        · exact Or.inr ⟨rfl, rfl, a, h1, Or.inr h2, h3⟩
      · rintro (h | ⟨_, _, a, h1, h2 | h2, h3⟩)
        · exact absurd h.1 (by decide)
        · exact Or.inl ⟨a, h1, h2, h3⟩
        · exact Or.inr ⟨a, h1, h2, h3⟩
    | false =>
      rw [if_neg (by decide), bitW_0 s hs]
      simp
/-- a start is not behind what it reaches -/
theorem reach_le {S : jS} {n nr nc nk m : Nat} {R : Nat → Int32} (hT : Told S n nr nc nk) (hm : m ≤ n) (hR : RF S n R m) : ∀ k i, i < k → i < m → ∀ s, s < 16 → bitW (R i) s = true → s ≤ i
  | 0, _, h, _ => absurd h (by omega)
  | k + 1, i, h, him => by
    intro s hs hb
    have hn := hT.1.2
    rcases (RF_bit hR hs hn him (by omega)).mp hb with ⟨_, h1⟩ | ⟨_, hg, a, ha, hf, hw⟩
    · omega
    · have hfe := fe_told hT (show i < n by omega) hg
      have hai : a < i := by
        rcases hf with hf | hf
        · rcases hfe.1 with h1 | ⟨b, hb1, hb2⟩
          · rw [hf] at h1
            exact absurd h1 (nI_ne1 (by omega))
          · rw [hf] at hb2
            have := (nI_eq (by omega) (by omega)).mp hb2
            omega
        · rcases hfe.2 with h1 | ⟨b, hb1, hb2⟩
          · rw [hf] at h1
            exact absurd h1 (nI_ne1 (by omega))
          · rw [hf] at hb2
            have := (nI_eq (by omega) (by omega)).mp hb2
            omega
      have := reach_le hT hm hR k a (by omega) (by omega) s hs hw
      omega
theorem sJoin_41 {S : jS} {n g x : Nat} {v : Int32} (h : x % 16 ≠ g) : (sJoin S n g v).2.1 41 x = S.2.1 41 x := by
  unfold sJoin
  by_cases hv : 0 ≤ v ∧ v < nI n
  · rw [if_pos hv]
    show jC (S.2.1 41) g _ _ x = _
    exact if_neg (fun z => h z.1)
  · rw [if_neg hv]
/-- a gate's count of a start, with those of one feed -/
theorem join_at {S : jS} {n g s k0 : Nat} {v : Int32} {R : Nat → Int32} (hs : s < n) (hn : n ≤ 16) (hg : g < n) (hv : fB' v g) (hC : ∀ a, a < g → ∃ k : Nat, k ≤ 2 ^ a ∧ S.2.1 41 (s * 16 + a) = nI k ∧ (1 ≤ k ↔ bitW (R a) s = true)) (hle : ∀ a, a < g → bitW (R a) s = true → s ≤ a) (h0 : S.2.1 41 (s * 16 + g) = nI k0) : ∃ kv : Nat, kv ≤ 2 ^ (g - 1) ∧ (sJoin S n g v).2.1 41 (s * 16 + g) = nI (k0 + kv) ∧ (1 ≤ kv ↔ bitW (rf R n v) s = true) := by
  rcases hv with rfl | ⟨a, ha, rfl⟩
  · refine ⟨0, Nat.zero_le _, ?_, ?_⟩
    · unfold sJoin
      rw [if_neg (fun z => absurd z.1 (by decide))]
      exact h0
    · rw [rf_bit (by omega) hn]
      constructor
      · intro z
        omega
      · intro ⟨b, hb, he, _⟩
        exact absurd he.symm (nI_ne1 (by omega))
  · obtain ⟨k, hk1, hk2, hk3⟩ := hC a ha
    have hr : bitW (rf R n (nI a)) s = true ↔ bitW (R a) s = true := by
      rw [rf_bit (by omega) hn]
      constructor
      · intro ⟨b, hb, he, hw⟩
        rw [(nI_eq (by omega) (by omega)).mp he]
        exact hw
      · intro hw
        exact ⟨a, by omega, rfl, hw⟩
    have hpos : 0 ≤ nI a ∧ nI a < nI n := ⟨Int32.not_lt.mp (nI_pos (by omega)), nI_lt (by omega) (by omega)⟩
    have hpow : 2 ^ a ≤ 2 ^ (g - 1) := Nat.pow_le_pow_right (by decide) (by omega)
    have hj : (sJoin S n g (nI a)).2.1 41 (s * 16 + g) = if (s * 16 + g) % 16 = g ∧ (s * 16 + g) / 16 < a + 1 then S.2.1 41 (s * 16 + g) + S.2.1 41 ((s * 16 + g) / 16 * 16 + a) else S.2.1 41 (s * 16 + g) := by
      unfold sJoin
      rw [if_pos hpos, nI_clamp (by omega)]
      rfl
    rw [hj, show (s * 16 + g) / 16 = s by omega, h0, hk2, nI_add]
    by_cases hsa : s < a + 1
    · rw [if_pos ⟨by omega, hsa⟩]
      exact ⟨k, by omega, rfl, hk3.trans hr.symm⟩
    · rw [if_neg (fun z => hsa z.2)]
      refine ⟨0, Nat.zero_le _, rfl, ?_⟩
      rw [hr]
      constructor
      · intro z
        omega
      · intro hw
        have := hle a ha hw
        omega
/-- the counts fit, and are above 0 where a start reaches -/
def CB (n : Nat) (R C : Nat → Int32) (m : Nat) : Prop := ∀ i, i < m → ∀ s, s < n → ∃ k : Nat, k ≤ 2 ^ i ∧ C (s * 16 + i) = nI k ∧ (1 ≤ k ↔ bitW (R i) s = true)
theorem sPrep_CB {S : jS} {n nr nc nk : Nat} (hT : Told S n nr nc nk) : ∀ m, m ≤ n → CB n ((sPrep S n m).2.1 39) ((sPrep S n m).2.1 41) m
  | 0, _ => fun i hi => absurd hi (by omega)
  | m + 1, h => by
    have hn := hT.1.2
    have ih := sPrep_CB hT m (by omega)
    have hR := sPrep_RF hT m (by omega)
    have hc := sPrep_c S n m
    have hT' := Told_c hc.1 hc.2 hT
    have hgf := fe_told hT' (show m < n by omega)
    have hs : (sPrep S n (m + 1)).2.1 39 = upd ((sPrep S n m).2.1 39) m (mR (sPrep S n m) n ((sPrep S n m).2.1 39) m) := sN2_39 (by omega) hgf
    have hle : ∀ s, s < 16 → ∀ a, a < m → bitW ((sPrep S n m).2.1 39 a) s = true → s ≤ a := fun s hs a ha hw => reach_le hT (by omega) hR (a + 1) a (by omega) ha s hs hw
    intro i hi s hsn
    rw [hs]
    show ∃ k : Nat, k ≤ 2 ^ i ∧ (sN2 (sPrep S n m) n m).2.1 41 (s * 16 + i) = nI k ∧ _
    generalize hX : sPrep S n m = X at *
    by_cases him : i = m
    · subst him
      rw [upd_self]
      have hz : zC (X.2.1 41) i n (s * 16 + i) = 0 := if_pos ⟨by omega, by omega⟩
      have hzo : ∀ a, a < i → zC (X.2.1 41) i n (s * 16 + a) = X.2.1 41 (s * 16 + a) := fun a ha => if_neg (fun z => by omega)
      unfold sN2 mR
      cases hst : stB X i with
      | true =>
        rw [if_pos rfl, if_pos rfl, bitW_one i (by omega) s (by omega)]
        show ∃ k : Nat, k ≤ 2 ^ i ∧ upd (zC (X.2.1 41) i n) (i * 16 + i) 1 (s * 16 + i) = nI k ∧ _
        unfold upd
        by_cases hsi : s = i
        · subst hsi
          rw [if_pos rfl]
          exact ⟨1, Nat.one_le_two_pow, rfl, by simp⟩
        · rw [if_neg (by omega), hz]
          exact ⟨0, Nat.zero_le _, rfl, by simp [hsi]⟩
      | false =>
        rw [if_neg (show ¬ (false = true) by decide), if_neg (show ¬ (false = true) by decide)]
        cases hg : gaB X i with
        | true =>
          rw [if_pos (show true = true from rfl), if_pos (show true = true from rfl)]
          have hf := hgf hg
          obtain ⟨k1, a1, a2, a3⟩ := join_at (S := sN1 X n i) (n := n) (g := i) (s := s) (k0 := 0) (v := fe1 X i) (R := X.2.1 39) hsn hn (by omega) hf.1 (fun a ha => by
            show ∃ k : Nat, k ≤ 2 ^ a ∧ zC (X.2.1 41) i n (s * 16 + a) = nI k ∧ _
            rw [hzo a ha]
            exact ih a ha s hsn) (hle s (by omega)) hz
          obtain ⟨k2, b1, b2, b3⟩ := join_at (S := sJoin (sN1 X n i) n i (fe1 X i)) (n := n) (g := i) (s := s) (k0 := 0 + k1) (v := fe2 X i) (R := X.2.1 39) hsn hn (by omega) hf.2 (fun a ha => by
            rw [sJoin_41 (by omega)]
            show ∃ k : Nat, k ≤ 2 ^ a ∧ zC (X.2.1 41) i n (s * 16 + a) = nI k ∧ _
            rw [hzo a ha]
            exact ih a ha s hsn) (hle s (by omega)) a2
          rw [b2]
          refine ⟨0 + k1 + k2, ?_, rfl, ?_⟩
          · by_cases h0 : i = 0
            · subst h0
              have z1 : k1 = 0 := by
                rcases hf.1 with h1 | ⟨a, ha, _⟩
                · rcases Nat.eq_zero_or_pos k1 with z | z
                  · exact z
                  · have hq := a3.mp z
                    rw [rf_bit (by omega) hn] at hq
                    obtain ⟨c, hc1, hc2, _⟩ := hq
                    rw [h1] at hc2
                    exact absurd hc2.symm (nI_ne1 (by omega))
                · omega
              omega
            · have : 2 ^ i = 2 ^ (i - 1) + 2 ^ (i - 1) := by
                obtain ⟨q, rfl⟩ : ∃ q, i = q + 1 := ⟨i - 1, by omega⟩
                rw [Nat.pow_succ]
                simp
                omega
              omega
          · rw [bitW_or _ _ (by omega), bitW_or _ _ (by omega), bitW_0 s (by omega), Bool.false_or, Bool.or_eq_true, ← a3, ← b3]
            omega
        | false =>
          rw [if_neg (show ¬ (false = true) by decide), if_neg (show ¬ (false = true) by decide), bitW_0 s (by omega)]
          show ∃ k : Nat, k ≤ 2 ^ i ∧ zC (X.2.1 41) i n (s * 16 + i) = nI k ∧ _
          rw [hz]
          exact ⟨0, Nat.zero_le _, rfl, by simp⟩
    · rw [upd_ne him]
      have hun : (sN2 X n m).2.1 41 (s * 16 + i) = X.2.1 41 (s * 16 + i) := by
        have hzo : zC (X.2.1 41) m n (s * 16 + i) = X.2.1 41 (s * 16 + i) := if_neg (fun z => by omega)
        unfold sN2
        split
        · show upd (zC (X.2.1 41) m n) (m * 16 + m) 1 (s * 16 + i) = _
          rw [upd_ne (by omega), hzo]
        · split
          · rw [sJoin_41 (by omega), sJoin_41 (by omega)]
            exact hzo
          · exact hzo
      rw [hun]
      exact ih i (by omega) s hsn
end
section
/-! What all calls keep: Inv -/
theorem kd_s {S S' : jS} (h : TS S S') {i : Nat} (hi : i < 16) : kd S' i = kd S i := h.1 _ _ (by omega)
theorem fe1_s {S S' : jS} (h : TS S S') {i : Nat} (hi : i < 16) : fe1 S' i = fe1 S i := h.1 _ _ (by omega)
theorem fe2_s {S S' : jS} (h : TS S S') {i : Nat} (hi : i < 16) : fe2 S' i = fe2 S i := h.1 _ _ (by omega)
theorem stB_s {S S' : jS} (h : TS S S') {i : Nat} (hi : i < 16) : stB S' i = stB S i := by
  have hk := kd_s h hi
  unfold stB
  rw [show sI S' (i + 13) 0 = sI S (i + 13) 0 from hk]
theorem enB_s {S S' : jS} (h : TS S S') {i : Nat} (hi : i < 16) : enB S' i = enB S i := by
  have hk := kd_s h hi
  unfold enB
  rw [show sI S' (i + 13) 0 = sI S (i + 13) 0 from hk]
theorem gaB_s {S S' : jS} (h : TS S S') {i : Nat} (hi : i < 16) : gaB S' i = gaB S i := by
  have hk := kd_s h hi
  unfold gaB
  rw [show sI S' (i + 13) 0 = sI S (i + 13) 0 from hk]
theorem mWin_s {S S' : jS} (h : TS S S') {s e : Int32} : ∀ k, k ≤ 6 → mWin S' s e k = mWin S s e k
  | 0, _ => rfl
  | k + 1, hk => by
    have f1 : mFits S' k s e = mFits S k s e := by
      unfold mFits
      rw [show sI S' (k + 29) 1 = sI S (k + 29) 1 from h.1 _ _ (by omega), show sI S' (k + 29) 2 = sI S (k + 29) 2 from h.1 _ _ (by omega)]
    have f2 : mWeight S' k = mWeight S k := by
      unfold mWeight
      rw [show sI S' (k + 29) 0 = sI S (k + 29) 0 from h.1 _ _ (by omega), show sI S' (k + 29) 1 = sI S (k + 29) 1 from h.1 _ _ (by omega), show sI S' (k + 29) 2 = sI S (k + 29) 2 from h.1 _ _ (by omega)]
    show (if mFits S' k s e = true ∧ ¬ mWeight S' k < (mWin S' s e k).2 then (nI k, mWeight S' k) else mWin S' s e k) = (if mFits S k s e = true ∧ ¬ mWeight S k < (mWin S s e k).2 then (nI k, mWeight S k) else mWin S s e k)
    rw [f1, f2, mWin_s h k (by omega)]
theorem mSort_s {S S' : jS} (h : TS S S') {s e nr : Nat} (hr : nr ≤ 6) : mSort S' s e nr = mSort S s e nr := by
  unfold mSort
  rw [mWin_s h nr hr]
  by_cases hw : (mWin S (nI s) (nI e) nr).1 = -1
  · rw [if_pos hw, if_pos hw]
  · rw [if_neg hw, if_neg hw]
    obtain ⟨i, hi, hw2⟩ := (mWin_r S (nI s) (nI e) nr).resolve_left hw
    rw [hw2, nI_clamp (by omega)]
    exact h.1 _ _ (by omega)
theorem mChk_s {S S' : jS} (h : TS S S') {R : Nat → Int32} {s e nr : Nat} (hr : nr ≤ 6) (hs : s < 16) (he : e < 16) (hv : ∀ i, i < 16 → sV S i < 4) : mChk S' R nr s e = mChk S R nr s e := by
  have v1 := hv s hs
  have v2 := hv e he
  unfold mChk mCome mGrp
  rw [mSort_s h hr, enB_s h he, fe1_s h he, show sV S' = sV S from h.2.2.2, show sI S' (sV S s + 6) 3 = sI S (sV S s + 6) 3 from h.1 _ _ (by omega), show sI S' (sV S e + 6) 3 = sI S (sV S e + 6) 3 from h.1 _ _ (by omega)]
theorem mCB_s {S S' : jS} (h : TS S S') {R : Nat → Int32} {e nr : Nat} (hr : nr ≤ 6) (he : e < 16) (hv : ∀ i, i < 16 → sV S i < 4) : ∀ m, m ≤ 16 → mCB S' R nr e m = mCB S R nr e m
  | 0, _ => rfl
  | m + 1, hm => by
    unfold mCB
    rw [mChk_s h hr (by omega) he hv, mCB_s h hr he hv m (by omega)]
theorem RF_s {S S' : jS} (h : TS S S') {n m : Nat} {R : Nat → Int32} (hm : m ≤ 16) (hR : RF S n R m) : RF S' n R m := by
  intro i hi
  rw [hR i hi]
  unfold mR
  rw [stB_s h (by omega), gaB_s h (by omega), fe1_s h (by omega), fe2_s h (by omega)]
/-- the paths' rows are those of what is told -/
def PT (S : jS) (n nr : Nat) : Prop := RF S n (sA S 39) n ∧ CB n (sA S 39) (sA S 41) n ∧ (∀ e, e < n → sA S 40 e = mCB S (sA S 39) nr e n) ∧ CkH S n
theorem CkH_s {S S' : jS} (h : TS S S') {n : Nat} (hn : n ≤ 16) (h40 : sA S' 40 = sA S 40) (h42 : sA S' 42 = sA S 42) (hC : CkH S n) : CkH S' n := by
  intro s e hs he hb
  rw [h40] at hb
  rw [h42, fe1_s h (by omega)]
  exact hC s e hs he hb
theorem PT_s {S S' : jS} (h : TS S S') {n nr nc nk : Nat} (hT : Told S n nr nc nk) (h39 : sA S' 39 = sA S 39) (h40 : sA S' 40 = sA S 40) (h41 : sA S' 41 = sA S 41) (h42 : sA S' 42 = sA S 42) (hp : PT S n nr) : PT S' n nr := by
  have hn := hT.1.2
  unfold PT
  rw [h39, h40, h41]
  exact ⟨RF_s h hn hp.1, hp.2.1, fun e he => by rw [mCB_s h hT.2.1.2 (by omega) hT.2.2.2.2.1 n hn]; exact hp.2.2.1 e he, CkH_s h hn h40 h42 hp.2.2.2⟩
theorem PT_paths {S : jS} {n nr nc nk : Nat} (hT : Told S n nr nc nk) (h : sI S 38 5 = 0 ∨ PT S n nr) : PT (sPaths S n nr) n nr := by
  have hn := hT.1.2
  unfold sPaths
  by_cases h0 : sI S 38 5 = 0
  · rw [if_pos h0]
    have hc := sPrep_c S n n
    have hP := sPrep_RF hT n (Nat.le_refl n)
    have hB := sPrep_CB hT n (Nat.le_refl n)
    have hCk := CkH_chks (X := sPrep S n n) hT hc.1 hc.2 (v := 1)
    have t1 : TS S (sPrep S n n) := TS_c hc.1 hc.2
    have t2 : TS (sPrep S n n) (pI (sChks (sPrep S n n) n nr n) 38 5 1) := TS_t (TS_c (sChks_c _ _ _ _).1 (sChks_c _ _ _ _).2) (TS_I _ (by decide))
    have e39 : sA (pI (sChks (sPrep S n n) n nr n) 38 5 1) 39 = (sPrep S n n).2.1 39 := sChks_39 _ _ _ _
    have e41 : sA (pI (sChks (sPrep S n n) n nr n) 38 5 1) 41 = (sPrep S n n).2.1 41 := sChks_41 _ _ _ _
    have hT1 := Told_s t1 hT
    refine ⟨?_, ?_, ?_, hCk⟩
    · rw [e39]
      exact RF_s (TS_t t1 t2) hn hP
    · rw [e39, e41]
      exact hB
    · intro e he
      rw [e39, mCB_s t2 hT1.2.1.2 (by omega) hT1.2.2.2.2.1 n hn]
      show (sChks (sPrep S n n) n nr n).2.1 40 e = _
      rw [sChks_40, if_pos he]
  · rw [if_neg h0]
    exact h.resolve_left h0
theorem sPaths_f (S : jS) (n nr : Nat) : sI (sPaths S n nr) 38 5 ≠ 0 := by
  unfold sPaths
  by_cases h0 : sI S 38 5 = 0
  · rw [if_pos h0]
    show up2 (sChks (sPrep S n n) n nr n).1 38 5 1 38 5 ≠ 0
    rw [up2_eq]
    decide
  · rw [if_neg h0]
    exact h0
theorem sPaths_1 {S : jS} {n nr : Nat} (h : ¬ sI S 38 5 = 0) : sPaths S n nr = S := if_neg h
theorem sDelays_1 {S : jS} {w : Nat → Nat} {n x : Nat} (h : ¬ sI S x 3 = 0) : sDelays S w n x = S := if_neg h
theorem sDelays_f (S : jS) (w : Nat → Nat) (n : Nat) : sI (sDelays S w n 43) 43 3 ≠ 0 := by
  unfold sDelays
  by_cases h0 : sI S 43 3 = 0
  · rw [if_pos h0]
    show up2 (sDel S w n 43).1 43 3 1 43 3 ≠ 0
    rw [up2_eq]
    decide
  · rw [if_neg h0]
    exact h0
theorem sDelays_A (S : jS) (w : Nat → Nat) (n x : Nat) : (sDelays S w n x).2.1 = S.2.1 := by
  unfold sDelays
  split <;> rfl
theorem sDelays_p (S : jS) (w : Nat → Nat) (n : Nat) : sI (sDelays S w n 43) 38 5 = sI S 38 5 := by
  unfold sDelays
  split
  · show up2 (sDel S w n 43).1 43 3 1 38 5 = _
    exact up2_k _ _ (by decide)
  · rfl
theorem xT_1 {j : Nat} (h : 1 ≤ j) : xT j = 43 := if_neg (by omega)
/-- loads and rises are those of what is told -/
def DT (S : jS) (n : Nat) (w : Nat → Nat) (p : Nat → Int) : Prop := ∀ i, i < n → sF S 44 i = fv (qLd S w n i) ∧ sD S 45 i = dv (32 * p i)
def Inv (S : jS) (n nr nc nk : Nat) (w kl ke : Nat → Nat) (p : Nat → Int) : Prop :=
  Told S n nr nc nk ∧ Tw S w ∧ (∀ c, c < 3 → sD S (c + 10) 0 = dv (512 * (kl c : Nat)) ∧ sD S (c + 10) 1 = dv (512 * (ke c : Nat)) ∧ kl c ≤ 16 ∧ ke c ≤ kl c) ∧ (∀ j, j < 7 → Grid S j) ∧ (sI S 38 5 = 0 ∨ PT S n nr) ∧ (sI S 43 3 = 0 ∨ DT S n w p) ∧ ∀ i, i < n → rho S i (qLd S w n i) = p i
theorem Told_z {S : jS} {n nr nc nk : Nat} (hT : Told S n nr nc nk) : ∀ i, i < 16 → sI S (i + 13) 5 = 1 ∨ sI S (i + 13) 5 = 2 ∨ sI S (i + 13) 5 = 4 := fun i hi => (hT.2.2.2.2.2.2.1 i hi).1
theorem p_r {S : jS} {n nr nc nk : Nat} {w : Nat → Nat} {p : Nat → Int} (hT : Told S n nr nc nk) (hw : Tw S w) (hp : ∀ i, i < n → rho S i (qLd S w n i) = p i) : ∀ i, i < n → 0 ≤ p i ∧ p i ≤ 17000 := by
  intro i hi
  have hn := hT.1.2
  have hq := qLd_r (Told_z hT) (fun i hi => (hw i hi).1) n hn i (by omega)
  rw [← hp i hi]
  exact rho_r (by omega) (Told_z hT i (by omega))
theorem rises_of {S : jS} {n nr nc nk j : Nat} {w kl ke : Nat → Nat} {p : Nat → Int} (h : Inv S n nr nc nk w kl ke p) (hd : DT S n w p) (hj : 1 ≤ j) : rises S j n p := by
  intro i hi
  rw [xT_1 hj]
  exact ⟨(hd i hi).2, p_r h.1 h.2.1 h.2.2.2.2.2.2 i hi⟩
theorem own_s {S S' : jS} (h : TS S S') {k : Nat} (hk : k < 16) : own S' k = own S k := by
  unfold own
  rw [kd_s h hk, show sI S' (k + 13) 5 = sI S (k + 13) 5 from h.1 _ _ (by omega)]
theorem qLd_s {S S' : jS} (h : TS S S') {w : Nat → Nat} : ∀ k, k ≤ 16 → qLd S' w k = qLd S w k
  | 0, _ => funext fun _ => rfl
  | k + 1, hk => by
    funext i
    unfold qLd
    rw [qLd_s h k (by omega), own_s h (by omega), fe1_s h (by omega), fe2_s h (by omega)]
theorem rho_s {S S' : jS} (h : TS S S') {i q : Nat} (hi : i < 16) : rho S' i q = rho S i q := by
  unfold rho
  rw [kd_s h hi, gaB_s h hi, show sI S' (i + 13) 5 = sI S (i + 13) 5 from h.1 _ _ (by omega)]
theorem DT_delays {S : jS} {n nr nc nk : Nat} {w : Nat → Nat} {p : Nat → Int} (hT : Told S n nr nc nk) (hp : ∀ i, i < n → rho S i (qLd S w n i) = p i) (h : sI S 43 3 = 0 ∨ DT S n w p) : DT (sDelays S w n 43) n w p := by
  have hn := hT.1.2
  have hts := TS_delays S w n (x := 43) (Or.inl rfl)
  intro i hi
  rw [qLd_s hts n hn]
  unfold sDelays
  by_cases h0 : sI S 43 3 = 0
  · rw [if_pos h0]
    refine ⟨?_, ?_⟩
    · show LF n (sF S 44) (qLd S w n) i = _
      exact LF_at hi
    · show RD S (qLd S w n) (sD S 45) n i = _
      rw [← hp i hi]
      exact if_pos hi
  · rw [if_neg h0]
    exact h.resolve_left h0 i hi
theorem DT_s {S S' : jS} (h : TS S S') {n : Nat} {w : Nat → Nat} {p : Nat → Int} (hn : n ≤ 16) (h1 : sF S' 44 = sF S 44) (h2 : sD S' 45 = sD S 45) (hd : DT S n w p) : DT S' n w p := by
  intro i hi
  rw [qLd_s h n hn, h1, h2]
  exact hd i hi
/-- paths and delays are fresh -/
def Inv2 (S : jS) (n nr nc nk : Nat) (w kl ke : Nat → Nat) (p : Nat → Int) : Prop := Inv S n nr nc nk w kl ke p ∧ ¬ sI S 38 5 = 0 ∧ ¬ sI S 43 3 = 0 ∧ PT S n nr ∧ DT S n w p
theorem Inv_ts {S S' : jS} {n nr nc nk : Nat} {w kl ke : Nat → Nat} {p : Nat → Int} (h : TS S S') (hI : Inv S n nr nc nk w kl ke p) (hg : ∀ j, j < 7 → Grid S' j) (h1 : sI S' 38 5 = 0 ∨ PT S' n nr) (h2 : sI S' 43 3 = 0 ∨ DT S' n w p) : Inv S' n nr nc nk w kl ke p := by
  obtain ⟨a, b, c, d, e, f, g⟩ := hI
  have hn := a.1.2
  exact ⟨Told_s h a, Tw_s h b, fun k hk => by
    have := c k hk
    exact ⟨(h.2.1 _ _ (by omega)).trans this.1, (h.2.1 _ _ (by omega)).trans this.2.1, this.2.2⟩, hg, h1, h2, fun i hi => by rw [rho_s h (by omega), qLd_s h n hn]; exact g i hi⟩
theorem Inv_pd {S : jS} {n nr nc nk : Nat} {w kl ke : Nat → Nat} {p : Nat → Int} (hI : Inv S n nr nc nk w kl ke p) : Inv2 (sPD S n nr w) n nr nc nk w kl ke p := by
  have hI' := hI
  obtain ⟨a, b, c, d, e, f, g⟩ := hI
  have hn := a.1.2
  have t1 := TS_paths S n nr
  have t2 := TS_delays (sPaths S n nr) w n (x := 43) (Or.inl rfl)
  have f1 : sI (sPaths S n nr) 43 3 = sI S 43 3 := by
    unfold sPaths
    split
    · show up2 (sChks (sPrep S n n) n nr n).1 38 5 1 43 3 = _
      rw [up2_k _ _ (by decide), (sChks_c _ _ _ _).1, (sPrep_c _ _ _).1]
    · rfl
  have f2 : sF (sPaths S n nr) 44 = sF S 44 ∧ sD (sPaths S n nr) 45 = sD S 45 := by
    refine ⟨?_, sPaths_D _ _ _ _⟩
    unfold sPaths
    split
    · show (sChks (sPrep S n n) n nr n).2.2.2.1 44 = _
      rw [(sChks_c _ _ _ _).2, (sPrep_c _ _ _).2]
    · rfl
  have hA : (sPD S n nr w).2.1 = (sPaths S n nr).2.1 := sDelays_A _ _ _ _
  have hP : PT (sPD S n nr w) n nr := PT_s t2 (Told_s t1 a) (congrFun hA 39) (congrFun hA 40) (congrFun hA 41) (congrFun hA 42) (PT_paths a e)
  have hD : DT (sPD S n nr w) n w p := by
    refine DT_delays (Told_s t1 a) (fun i hi => by rw [rho_s t1 (by omega), qLd_s t1 n hn]; exact g i hi) ?_
    rw [f1]
    exact f.imp id (fun q => DT_s t1 hn f2.1 f2.2 q)
  have h1 : ¬ sI (sPD S n nr w) 38 5 = 0 := by
    show ¬ sI (sDelays (sPaths S n nr) w n 43) 38 5 = 0
    rw [sDelays_p]
    exact sPaths_f S n nr
  exact ⟨Inv_ts (TS_pd S n nr w) hI' (fun j hj => sPD_G (d j hj)) (Or.inr hP) (Or.inr hD), h1, sDelays_f _ _ _, hP, hD⟩
theorem sPD_1 {S : jS} {n nr : Nat} {w : Nat → Nat} (h1 : ¬ sI S 38 5 = 0) (h2 : ¬ sI S 43 3 = 0) : sPD S n nr w = S := by
  unfold sPD
  rw [sPaths_1 h1, sDelays_1 h2]
theorem pI_k {S : jS} {k f a b : Nat} {v : Int32} (h : a ≠ k) : sI (pI S k f v) a b = sI S a b := up2_k _ _ h
theorem Inv_tm {X : jS} {n nr nc nk j c : Nat} {w kl ke : Nat → Nat} {p : Nat → Int} (h : Inv2 X n nr nc nk w kl ke p) (hj : j < 7) (hj1 : 1 ≤ j) (hc : c < 3) : Inv2 (sTm X n j (kl c) (ke c) p) n nr nc nk w kl ke p := by
  obtain ⟨hI, h1, h2, hP, hD⟩ := h
  by_cases hf : sI X (5 * j + 49) 8 = 0
  · have hts := TS_tm X n j (kl c) (ke c) p
    have hn := hI.1.1.2
    rw [sTm_0 hf] at hts ⊢
    have hok := mRk_ok (j := j) (kl := kl c) (ke := ke c) hI.1 hP.2.2.2 (rises_of hI hD hj1) (hI.2.2.1 c hc).2.2.1 (hI.2.2.1 c hc).2.2.2 (hI.2.2.2.1 j hj).2
    have hP' : PT (pI (sT X j (mRk X j (kl c) (ke c) n p (tOf X j))) (5 * j + 49) 8 1) n nr := PT_s hts hI.1 rfl rfl rfl rfl hP
    have hD' : DT (pI (sT X j (mRk X j (kl c) (ke c) n p (tOf X j))) (5 * j + 49) 8 1) n w p := DT_s hts hn rfl (sT_o (by omega)) hD
    refine ⟨Inv_ts hts hI (fun k hk => ?_) (Or.inr hP') (Or.inr hD'), ?_, ?_, hP', hD'⟩
    · by_cases hkj : k = j
      · subst hkj
        exact Grid_i (t := mRk X k (kl c) (ke c) n p (tOf X k)) (GT_s X k _) hok
      · exact Grid_c (fun a q1 q2 => sT_n (by omega)) (hI.2.2.2.1 k hk)
    · rw [pI_k (by omega)]
      exact h1
    · rw [pI_k (by omega)]
      exact h2
  · rw [sTm_1 hf]
    exact ⟨hI, h1, h2, hP, hD⟩
end
section
/-! What timing says does not hang on what stood in its tables before -/
theorem srcS_c {j c : Nat} {A A' : Nat → Int} {ok : Bool} {b : Int32} (h1 : ok = true → A c = A' c) (h2 : b = -1 ∨ A b.toNatClampNeg = A' b.toNatClampNeg) : srcS j A ok c b = srcS j A' ok c b := by
  unfold srcS
  by_cases hk : ok = true
  · rcases h2 with h2 | h2
    · rw [if_pos ⟨hk, Or.inl h2⟩, if_pos ⟨hk, Or.inl h2⟩]
    · rw [h1 hk, h2]
  · rw [if_neg (fun z => hk z.1), if_neg (fun z => hk z.1)]
theorem srcS_e {j c : Nat} {A A' : Nat → Int} {ok : Bool} {b : Int32} (hc : ok = true → c < 2 ^ 31) (h1 : ok = true → A c = A' c) (h2 : b = -1 ∨ A b.toNatClampNeg = A' b.toNatClampNeg) : srcS j A ok c b = -1 ∨ A (srcS j A ok c b).toNatClampNeg = A' (srcS j A ok c b).toNatClampNeg := by
  unfold srcS
  by_cases hk : ok = true ∧ (b = -1 ∨ (if isLateT j = 0 then A c < A b.toNatClampNeg else A b.toNatClampNeg < A c))
  · rw [if_pos hk, nI_clamp (hc hk.1)]
    exact Or.inr (h1 hk.1)
  · rw [if_neg hk]
    exact h2
theorem srcS_n {j c : Nat} {A : Nat → Int} {ok : Bool} {b : Int32} (hc : ok = true → c < 2 ^ 31) (h : srcS j A ok c b = -1) : b = -1 ∧ ok = false := by
  unfold srcS at h
  by_cases hk : ok = true ∧ (b = -1 ∨ (if isLateT j = 0 then A c < A b.toNatClampNeg else A b.toNatClampNeg < A c))
  · rw [if_pos hk] at h
    exact absurd h (nI_ne1 (hc hk.1))
  · rw [if_neg hk] at h
    refine ⟨h, ?_⟩
    cases hok : ok
    · rfl
    · exact absurd ⟨hok, Or.inl h⟩ hk
theorem okC_l {S : jS} {s i e f q : Nat} {v : Int32} (hf : f ≤ 1) (hq : q ≤ 16) (hv : fB' v q) (h : okC S s i e v f = true) : v.toNatClampNeg * 2 + f < 2 ^ 31 := by
  have := okC_r hf hq hv h
  omega
theorem mSrc_c {S : jS} {j s i e : Nat} {A A' : Nat → Int} (hi : i ≤ 16) (h1 : fB' (fe1 S i) i) (h2 : fB' (fe2 S i) i) (h : ∀ v f, fB' v i → f ≤ 1 → okC S s i e v f = true → A (v.toNatClampNeg * 2 + f) = A' (v.toNatClampNeg * 2 + f)) : mSrc S j A s i e = mSrc S j A' s i e := by
  have e1 := srcS_e (j := j) (b := -1) (okC_l (S := S) (s := s) (i := i) (e := e) (f := 0) (by decide) hi h1) (h _ 0 h1 (by decide)) (Or.inl rfl)
  have e2 := srcS_e (j := j) (okC_l (S := S) (s := s) (i := i) (e := e) (f := 1) (by decide) hi h1) (h _ 1 h1 (by decide)) e1
  have e3 := srcS_e (j := j) (okC_l (S := S) (s := s) (i := i) (e := e) (f := 0) (by decide) hi h2) (h _ 0 h2 (by decide)) e2
  unfold mSrc
  rw [srcS_c (h _ 1 h2 (by decide)) e3, srcS_c (h _ 0 h2 (by decide)) e2, srcS_c (h _ 1 h1 (by decide)) e1, srcS_c (h _ 0 h1 (by decide)) (Or.inl rfl)]
theorem mSrc_n {S : jS} {j s i e : Nat} {A : Nat → Int} (hi : i ≤ 16) (h1 : fB' (fe1 S i) i) (h2 : fB' (fe2 S i) i) (h : mSrc S j A s i e = -1) : ∀ f, f ≤ 1 → okC S s i e (fe1 S i) f = false ∧ okC S s i e (fe2 S i) f = false := by
  unfold mSrc at h
  have n4 := srcS_n (okC_l (f := 1) (by decide) hi h2) h
  have n3 := srcS_n (okC_l (f := 0) (by decide) hi h2) n4.1
  have n2 := srcS_n (okC_l (f := 1) (by decide) hi h1) n3.1
  have n1 := srcS_n (okC_l (f := 0) (by decide) hi h1) n2.1
  intro f hf
  rcases (show f = 0 ∨ f = 1 by omega) with rfl | rfl
  · exact ⟨n1.2, n3.2⟩
  · exact ⟨n2.2, n4.2⟩
/-- some edge of a feed makes each edge of a gate -/
theorem mkB_some (S : jS) (i e : Nat) (he : e ≤ 1) : ∃ f, f ≤ 1 ∧ mkB S i f e = true := by
  unfold mkB
  by_cases h : kd S i = 2 ∨ kd S i = 4
  · refine ⟨1 - e, by omega, ?_⟩
    refine decide_eq_true (Or.inr ?_)
    rw [if_pos h]
    have : nI (1 - e) ≠ nI e := fun z => by
      have := (nI_eq (by omega) (by omega)).mp z
      omega
    exact this
  · refine ⟨e, he, ?_⟩
    refine decide_eq_true (Or.inr ?_)
    rw [if_neg h]
theorem okC_t {S : jS} {s i e f a : Nat} (ha : a < 16) (hb : bitW (sA S 39 a) s = true) (hm : mkB S i f e = true) : okC S s i e (nI a) f = true := by
  unfold okC
  rw [nI_clamp (by omega), bitR_W, hb, hm]
  simp [nI_ne1 (show a < 2 ^ 31 by omega)]
theorem okC_b {S : jS} {s i e f a : Nat} (ha : a < 16) (h : okC S s i e (nI a) f = true) : bitW (sA S 39 a) s = true := by
  unfold okC at h
  rw [nI_clamp (by omega), bitR_W] at h
  simp only [Bool.and_eq_true] at h
  exact h.1.2
/-- where a start reaches a gate there is a spot by which it comes -/
theorem mSrc_some {S : jS} {n nr nc nk j s i e : Nat} {A : Nat → Int} (hT : Told S n nr nc nk) (hR : RF S n (sA S 39) n) (hs : s < 16) (hi : i < n) (he : e ≤ 1) (hg : gaB S i = true) (hst : stB S i = false) (hb : bitW (sA S 39 i) s = true) : mSrc S j A s i e ≠ -1 := by
  have hn := hT.1.2
  have hf := fe_told hT hi hg
  intro h
  have hno := mSrc_n (by omega) hf.1 hf.2 h
  obtain ⟨f, hf1, hf2⟩ := mkB_some S i e he
  rcases (RF_bit hR hs hn hi (by omega)).mp hb with ⟨h1, _⟩ | ⟨_, _, a, ha, h1, hw⟩
  · rw [hst] at h1
    exact absurd h1 (by decide)
  · have hok := okC_t (S := S) (i := i) (e := e) (f := f) (show a < 16 by omega) hw hf2
    rcases h1 with h1 | h1
    · rw [← h1, (hno f hf1).1] at hok
      exact absurd hok (by decide)
    · rw [← h1, (hno f hf1).2] at hok
      exact absurd hok (by decide)
/-- arrivals agree below m -/
def agA (S : jS) (m : Nat) (A A' : Nat → Int) : Prop := ∀ s i f, s < 16 → i < m → f ≤ 1 → bitW (sA S 39 i) s = true → A (s * 32 + i * 2 + f) = A' (s * 32 + i * 2 + f)
theorem agA_u {S : jS} {m k : Nat} {A A' : Nat → Int} {v v' : Int} (h : agA S m A A') (hv : v = v') : agA S m (upZ A k v) (upZ A' k v') := by
  intro s i f hs hi hf hb
  unfold upZ
  by_cases hx : s * 32 + i * 2 + f = k
  · rw [if_pos hx, if_pos hx, hv]
  · rw [if_neg hx, if_neg hx]
    exact h s i f hs hi hf hb
theorem mDep_ag {S : jS} {n m : Nat} {A A' : Nat → Int} {b d0 d1 : Int} (hR : RF S n (sA S 39) n) (hn : n ≤ 16) (hm : m < n) (hst : stB S m = true) (h : agA S m A A') : agA S (m + 1) (mDep A m b d0 d1) (mDep A' m b d0 d1) := by
  intro s i f hs hi hf hb
  by_cases him : i = m
  · subst him
    rcases (RF_bit hR hs hn hm (by omega)).mp hb with ⟨_, h1⟩ | ⟨h1, _⟩
    · subst h1
      unfold mDep upZ
      rcases (show f = 0 ∨ f = 1 by omega) with rfl | rfl
      · have q1 : ¬ (s * 32 + s * 2 + 0 = s * 32 + s * 2 + 1) := by omega
        have q2 : s * 32 + s * 2 + 0 = s * 32 + s * 2 + 0 := rfl
        rw [if_neg q1, if_neg q1, if_pos q2, if_pos q2]
      · have q2 : s * 32 + s * 2 + 1 = s * 32 + s * 2 + 1 := rfl
        rw [if_pos q2, if_pos q2]
    · rw [hst] at h1
      exact absurd h1 (by decide)
  · exact agA_u (agA_u h rfl) rfl s i f hs (by omega) hf hb
/-- the arrivals at a gate -/
theorem mP1_ag {S : jS} {n nr nc nk j q e : Nat} {d : Int} {A A' : Nat → Int} (hT : Told S n nr nc nk) (hR : RF S n (sA S 39) n) (hq : q < n) (he : e ≤ 1) (hg : gaB S q = true) (hst : stB S q = false) {s : Nat} (hs : s < 16)
    (h : agA S q A A') : agA S q (mP1 S j q e d s A) (mP1 S j q e d s A') ∧ (bitW (sA S 39 q) s = true → mP1 S j q e d s A (s * 32 + q * 2 + e) = mP1 S j q e d s A' (s * 32 + q * 2 + e)) ∧ ∀ x, x ≠ s * 32 + q * 2 + e → mP1 S j q e d s A x = A x := by
  have hn := hT.1.2
  have hf := fe_told hT hq hg
  have hx0 : ∀ v f, fB' v q → f ≤ 1 → okC S s q e v f = true → A (s * 32 + (v.toNatClampNeg * 2 + f)) = A' (s * 32 + (v.toNatClampNeg * 2 + f)) := by
    intro v f hv hf1 hok
    rcases hv with rfl | ⟨a, ha, rfl⟩
    · unfold okC at hok
      simp at hok
    · have hb := okC_b (show a < 16 by omega) hok
      rw [nI_clamp (by omega)]
      have := h s a f hs ha hf1 hb
      rw [show s * 32 + (a * 2 + f) = s * 32 + a * 2 + f by omega]
      exact this
  have hsrc : mSrc S j (fun c => A (s * 32 + c)) s q e = mSrc S j (fun c => A' (s * 32 + c)) s q e := mSrc_c (by omega) hf.1 hf.2 hx0
  have hx : ∀ x, x ≠ s * 32 + q * 2 + e → mP1 S j q e d s A x = A x := by
    intro x hxx
    unfold mP1
    split
    · exact if_neg (by omega)
    · rfl
  refine ⟨?_, ?_, hx⟩
  · unfold mP1
    rw [← hsrc]
    by_cases hc : bitR (sA S 39) s q = true ∧ mSrc S j (fun c => A (s * 32 + c)) s q e ≠ -1
    · rw [if_pos hc, if_pos hc]
      intro s1 i f hs1 hi hf1 hb
      unfold upZ
      rw [if_neg (by omega), if_neg (by omega)]
      exact h s1 i f hs1 hi hf1 hb
    · rw [if_neg hc, if_neg hc]
      exact h
  · intro hb
    have hne := mSrc_some (j := j) (A := fun c => A (s * 32 + c)) hT hR hs hq he hg hst hb
    have hc : bitR (sA S 39) s q = true ∧ mSrc S j (fun c => A (s * 32 + c)) s q e ≠ -1 := ⟨hb, hne⟩
    have e0 := srcS_e (j := j) (A := fun c => A (s * 32 + c)) (A' := fun c => A' (s * 32 + c)) (b := -1) (okC_l (S := S) (s := s) (i := q) (e := e) (f := 0) (by decide) (by omega) hf.1) (hx0 _ 0 hf.1 (by decide)) (Or.inl rfl)
    have e1 := srcS_e (j := j) (A := fun c => A (s * 32 + c)) (A' := fun c => A' (s * 32 + c)) (okC_l (S := S) (s := s) (i := q) (e := e) (f := 1) (by decide) (by omega) hf.1) (hx0 _ 1 hf.1 (by decide)) e0
    have e2 := srcS_e (j := j) (A := fun c => A (s * 32 + c)) (A' := fun c => A' (s * 32 + c)) (okC_l (S := S) (s := s) (i := q) (e := e) (f := 0) (by decide) (by omega) hf.2) (hx0 _ 0 hf.2 (by decide)) e1
    have e3 := srcS_e (j := j) (A := fun c => A (s * 32 + c)) (A' := fun c => A' (s * 32 + c)) (okC_l (S := S) (s := s) (i := q) (e := e) (f := 1) (by decide) (by omega) hf.2) (hx0 _ 1 hf.2 (by decide)) e2
    have e4 : A (s * 32 + (mSrc S j (fun c => A (s * 32 + c)) s q e).toNatClampNeg) = A' (s * 32 + (mSrc S j (fun c => A (s * 32 + c)) s q e).toNatClampNeg) := e3.resolve_left hne
    unfold mP1
    rw [← hsrc, if_pos hc, if_pos hc, e4]
    have q2 : s * 32 + q * 2 + e = s * 32 + (q * 2 + e) := by omega
    unfold upZ
    rw [if_pos q2, if_pos q2]
theorem mPs_ag {S : jS} {n nr nc nk j q e : Nat} {d : Int} {A A' : Nat → Int} (hT : Told S n nr nc nk) (hR : RF S n (sA S 39) n) (hq : q < n) (he : e ≤ 1) (hg : gaB S q = true) (hst : stB S q = false) (h : agA S q A A') : ∀ s, s ≤ q → agA S q (mPs S j q e d A s) (mPs S j q e d A' s) ∧ (∀ r, r < s → bitW (sA S 39 q) r = true → mPs S j q e d A s (r * 32 + q * 2 + e) = mPs S j q e d A' s (r * 32 + q * 2 + e)) ∧ ∀ x, (∀ r, r < s → x ≠ r * 32 + q * 2 + e) → mPs S j q e d A s x = A x
  | 0, _ => ⟨h, fun r hr => absurd hr (by omega), fun _ _ => rfl⟩
  | s + 1, hsq => by
    have hn := hT.1.2
    have ih := mPs_ag (j := j) (d := d) hT hR hq he hg hst h s (by omega)
    have h1 := mP1_ag (j := j) (d := d) hT hR hq he hg hst (show s < 16 by omega) ih.1
    have h1' := mP1_ag (j := j) (d := d) (A := mPs S j q e d A' s) (A' := mPs S j q e d A' s) hT hR hq he hg hst (show s < 16 by omega) (fun _ _ _ _ _ _ _ => rfl)
    refine ⟨h1.1, ?_, ?_⟩
    · intro r hr hb
      by_cases hrs : r = s
      · subst hrs
        exact h1.2.1 hb
      · show mP1 S j q e d s (mPs S j q e d A s) _ = mP1 S j q e d s (mPs S j q e d A' s) _
        rw [h1.2.2 _ (by omega), h1'.2.2 _ (by omega)]
        exact ih.2.1 r (by omega) hb
    · intro x hx
      show mP1 S j q e d s (mPs S j q e d A s) x = _
      rw [h1.2.2 _ (hx s (by omega))]
      exact ih.2.2 x (fun r hr => hx r (by omega))
theorem mPass_ag {S : jS} {n nr nc nk j q kl ke : Nat} {p : Int} {A A' : Nat → Int} (hT : Told S n nr nc nk) (hR : RF S n (sA S 39) n) (hq : q < n) (hg : gaB S q = true) (hst : stB S q = false) (h : agA S q A A') : agA S (q + 1) (mPass S j q kl ke p A) (mPass S j q kl ke p A') := by
  have hn := hT.1.2
  have p0 := mPs_ag (j := j) (d := mDl j kl ke p 0) hT hR hq (show 0 ≤ 1 by decide) hg hst h q (Nat.le_refl q)
  have p1 := mPs_ag (j := j) (d := mDl j kl ke p 1) hT hR hq (show 1 ≤ 1 by decide) hg hst p0.1 q (Nat.le_refl q)
  have p1' := mPs_ag (j := j) (d := mDl j kl ke p 1) (A := mPs S j q 0 (mDl j kl ke p 0) A' q) (A' := mPs S j q 0 (mDl j kl ke p 0) A' q) hT hR hq (show 1 ≤ 1 by decide) hg hst (fun _ _ _ _ _ _ _ => rfl) q (Nat.le_refl q)
  intro s i f hs hi hf hb
  by_cases hiq : i = q
  · subst hiq
    have hle : s < i := by
      rcases (RF_bit hR hs hn hq (by omega)).mp hb with ⟨h1, _⟩ | ⟨_, _, a, ha, h1, hw⟩
      · rw [hst] at h1
        exact absurd h1 (by decide)
      · have hfe := fe_told hT hq hg
        have h2 := reach_le hT (Nat.le_refl n) hR (a + 1) a (by omega) ha s hs hw
        rcases h1 with h1 | h1
        · rcases hfe.1 with h3 | ⟨b, hb1, hb2⟩
          · rw [h1] at h3
            exact absurd h3 (nI_ne1 (by omega))
          · rw [h1] at hb2
            have := (nI_eq (by omega) (by omega)).mp hb2
            omega
        · rcases hfe.2 with h3 | ⟨b, hb1, hb2⟩
          · rw [h1] at h3
            exact absurd h3 (nI_ne1 (by omega))
          · rw [h1] at hb2
            have := (nI_eq (by omega) (by omega)).mp hb2
            omega
    rcases (show f = 0 ∨ f = 1 by omega) with rfl | rfl
    · unfold mPass
      rw [p1.2.2 _ (fun r hr => by omega), p1'.2.2 _ (fun r hr => by omega)]
      exact p0.2.1 s hle hb
    · exact p1.2.1 s hle hb
  · exact p1.1 s i f hs (by omega) hf hb
end
section
/-! .. nor does what is left -/
/-- the checks to e agree -/
def agZ (S : jS) (n e : Nat) (Z Z' : Nat → Int) : Prop := ∀ s, s < n → bitR (sA S 40) s e = true → Z (s * 16 + e) = Z' (s * 16 + e)
theorem mSe_at {S : jS} {j kl ke e : Nat} {A Z : Nat → Int} (he : e < 16) : ∀ m, (∀ s, s < m → bitR (sA S 40) s e = true → mSe S j kl ke e A Z m (s * 16 + e) = mLf S j kl ke A s e) ∧ ∀ x, x % 16 ≠ e → mSe S j kl ke e A Z m x = Z x
  | 0 => ⟨fun _ h => absurd h (by omega), fun _ _ => rfl⟩
  | m + 1 => by
    have ih := mSe_at (S := S) (j := j) (kl := kl) (ke := ke) (A := A) (Z := Z) he m
    cases hb : bitR (sA S 40) m e with
    | true =>
      rw [mSe_t hb]
      refine ⟨fun s hs hbs => ?_, fun x hx => ?_⟩
      · unfold upZ
        by_cases h : s = m
        · subst h
          exact if_pos rfl
        · rw [if_neg (by omega)]
          exact ih.1 s (by omega) hbs
      · unfold upZ
        by_cases h : x = m * 16 + e
        · omega
        · rw [if_neg h]
          exact ih.2 x hx
    | false =>
      rw [mSe_f hb]
      refine ⟨fun s hs hbs => ?_, ih.2⟩
      by_cases h : s = m
      · subst h
        rw [hb] at hbs
        exact absurd hbs (by decide)
      · exact ih.1 s (by omega) hbs
theorem mLk_c {S : jS} {n e : Nat} {Z Z' : Nat → Int} (h : agZ S n e Z Z') : ∀ m, m ≤ n → mLk S e Z m = mLk S e Z' m
  | 0, _ => rfl
  | m + 1, hm => by
    have ih := mLk_c h m (by omega)
    cases hb : bitR (sA S 40) m e with
    | true => rw [mLk_t hb, mLk_t hb, ih, h m (by omega) hb]
    | false => rw [mLk_f hb, mLk_f hb, ih]
theorem mLs_c {S : jS} {n e : Nat} {Z Z' : Nat → Int} (h : agZ S n e Z Z') : ∀ m, m ≤ n → mLs S e Z m = mLs S e Z' m
  | 0, _ => rfl
  | m + 1, hm => by
    have ih := mLs_c h m (by omega)
    unfold mLs mLo
    rw [ih]
    cases hb : bitR (sA S 40) m e with
    | true => rw [if_pos rfl, if_pos rfl, h m (by omega) hb]
    | false => rw [if_neg (by decide), if_neg (by decide)]
def lnv (b z : Int) : Int := if z < 0 then min (z + b) 0 else z
theorem mLn_at {S : jS} {e : Nat} {b : Int} {Z : Nat → Int} (he : e < 16) : ∀ m, (∀ s, s < m → bitR (sA S 40) s e = true → mLn S e b Z m (s * 16 + e) = lnv b (Z (s * 16 + e))) ∧ (∀ s, m ≤ s → mLn S e b Z m (s * 16 + e) = Z (s * 16 + e)) ∧ ∀ x, x % 16 ≠ e → mLn S e b Z m x = Z x
  | 0 => ⟨fun _ h => absurd h (by omega), fun _ _ => rfl, fun _ _ => rfl⟩
  | m + 1 => by
    have ih := mLn_at (S := S) (b := b) (Z := Z) he m
    have hz := ih.2.1 m (Nat.le_refl m)
    cases hb : bitR (sA S 40) m e with
    | true =>
      by_cases hneg : mLn S e b Z m (m * 16 + e) < 0
      · rw [mLn_t hb hneg]
        refine ⟨fun s hs hbs => ?_, fun s hs => ?_, fun x hx => ?_⟩
        · unfold upZ
          by_cases h : s = m
          · subst h
            rw [if_pos rfl, hz]
            rw [hz] at hneg
            unfold lnv
            rw [if_pos hneg]
          · rw [if_neg (by omega)]
            exact ih.1 s (by omega) hbs
        · unfold upZ
          rw [if_neg (by omega)]
          exact ih.2.1 s (by omega)
        · unfold upZ
          rw [if_neg (fun h => by omega)]
          exact ih.2.2 x hx
      · rw [mLn_g hneg]
        refine ⟨fun s hs hbs => ?_, fun s hs => ih.2.1 s (by omega), ih.2.2⟩
        by_cases h : s = m
        · subst h
          rw [hz]
          rw [hz] at hneg
          unfold lnv
          rw [if_neg hneg]
        · exact ih.1 s (by omega) hbs
    | false =>
      rw [mLn_f hb]
      refine ⟨fun s hs hbs => ?_, fun s hs => ih.2.1 s (by omega), ih.2.2⟩
      by_cases h : s = m
      · subst h
        rw [hb] at hbs
        exact absurd hbs (by decide)
      · exact ih.1 s (by omega) hbs
/-- two rows of tables agree: arrivals below m, the ends of K, borrows below m -/
def agT (S : jS) (n m : Nat) (K : Nat → Prop) (t t' : TT) : Prop := agA S m t.1 t'.1 ∧ (∀ e, e < n → K e → agZ S n e t.2.1 t'.2.1 ∧ t.2.2.1 e = t'.2.2.1 e) ∧ ∀ i, i < m → t.2.2.2 i = t'.2.2.2 i
theorem upZ_c {F F' : Nat → Int} {k x : Nat} {v v' : Int} (hv : v = v') (h : x = k ∨ F x = F' x) : upZ F k v x = upZ F' k v' x := by
  unfold upZ
  by_cases hx : x = k
  · rw [if_pos hx, if_pos hx, hv]
  · rw [if_neg hx, if_neg hx]
    exact h.resolve_left hx
/-- what a check to e reads agrees -/
def agF (S : jS) (n e : Nat) (A A' : Nat → Int) : Prop := ∀ s, s < n → bitR (sA S 40) s e = true → A (s * 32 + (fe1 S e).toNatClampNeg * 2 + 0) = A' (s * 32 + (fe1 S e).toNatClampNeg * 2 + 0) ∧ A (s * 32 + (fe1 S e).toNatClampNeg * 2 + 1) = A' (s * 32 + (fe1 S e).toNatClampNeg * 2 + 1)
theorem mSettle_ag {S : jS} {n m j kl ke e : Nat} {K : Nat → Prop} {t t' : TT} (hn : n ≤ 16) (he : e < n) (hF : agF S n e t.1 t'.1) (h : agT S n m K t t') : agT S n m (fun x => K x ∨ x = e) (mSettle S j kl ke n e t) (mSettle S j kl ke n e t') := by
  obtain ⟨A, Z, M, BB⟩ := t
  obtain ⟨A', Z', M', BB'⟩ := t'
  obtain ⟨h1, h2, h3⟩ := h
  have s1 := mSe_at (S := S) (j := j) (kl := kl) (ke := ke) (A := A) (Z := Z) (show e < 16 by omega) n
  have s2 := mSe_at (S := S) (j := j) (kl := kl) (ke := ke) (A := A') (Z := Z') (show e < 16 by omega) n
  have hSe : agZ S n e (mSe S j kl ke e A Z n) (mSe S j kl ke e A' Z' n) := by
    intro s hs hb
    rw [s1.1 s hs hb, s2.1 s hs hb]
    have hf := hF s hs hb
    unfold mLf
    rw [show A (s * 32 + (fe1 S e).toNatClampNeg * 2 + 0) = A' (s * 32 + (fe1 S e).toNatClampNeg * 2 + 0) from hf.1, show A (s * 32 + (fe1 S e).toNatClampNeg * 2 + 1) = A' (s * 32 + (fe1 S e).toNatClampNeg * 2 + 1) from hf.2]
  have hBr : mBr S n e (mSe S j kl ke e A Z n) = mBr S n e (mSe S j kl ke e A' Z' n) := by
    unfold mBr
    rw [mLk_c hSe n (Nat.le_refl n)]
  have l1 := mLn_at (S := S) (b := mBr S n e (mSe S j kl ke e A Z n)) (Z := mSe S j kl ke e A Z n) (show e < 16 by omega) n
  have l2 := mLn_at (S := S) (b := mBr S n e (mSe S j kl ke e A' Z' n)) (Z := mSe S j kl ke e A' Z' n) (show e < 16 by omega) n
  have hLn : agZ S n e (mLn S e (mBr S n e (mSe S j kl ke e A Z n)) (mSe S j kl ke e A Z n) n) (mLn S e (mBr S n e (mSe S j kl ke e A' Z' n)) (mSe S j kl ke e A' Z' n) n) := by
    intro s hs hb
    rw [l1.1 s hs hb, l2.1 s hs hb, hBr, hSe s hs hb]
  have ho : ∀ e', e' < n → e' ≠ e → ∀ s, (s * 16 + e') % 16 ≠ e := fun e' h1 h2 s => by omega
  by_cases hc : ¬ isLateT j = 0 ∧ kd S e = 7
  · rw [mSettle_t hc.1 hc.2, mSettle_t hc.1 hc.2]
    refine ⟨h1, fun e' he' hK => ?_, fun i hi => upZ_c hBr (Or.inr (h3 i hi))⟩
    by_cases hee : e' = e
    · subst hee
      exact ⟨hLn, upZ_c (mLs_c hLn n (Nat.le_refl n)) (Or.inl rfl)⟩
    · have hk := h2 e' he' (hK.resolve_right hee)
      refine ⟨fun s hs hb => ?_, upZ_c (mLs_c hLn n (Nat.le_refl n)) (Or.inr hk.2)⟩
      show mLn S e _ _ n (s * 16 + e') = mLn S e _ _ n (s * 16 + e')
      rw [l1.2.2 _ (ho e' he' hee s), l2.2.2 _ (ho e' he' hee s), s1.2 _ (ho e' he' hee s), s2.2 _ (ho e' he' hee s)]
      exact hk.1 s hs hb
  · have q1 : mSettle S j kl ke n e (A, Z, M, BB) = (A, mSe S j kl ke e A Z n, upZ M e (mLs S e (mSe S j kl ke e A Z n) n), BB) := if_neg hc
    have q2 : mSettle S j kl ke n e (A', Z', M', BB') = (A', mSe S j kl ke e A' Z' n, upZ M' e (mLs S e (mSe S j kl ke e A' Z' n) n), BB') := if_neg hc
    rw [q1, q2]
    refine ⟨h1, fun e' he' hK => ?_, h3⟩
    by_cases hee : e' = e
    · subst hee
      exact ⟨hSe, upZ_c (mLs_c hSe n (Nat.le_refl n)) (Or.inl rfl)⟩
    · have hk := h2 e' he' (hK.resolve_right hee)
      refine ⟨fun s hs hb => ?_, upZ_c (mLs_c hSe n (Nat.le_refl n)) (Or.inr hk.2)⟩
      show mSe S j kl ke e A Z n (s * 16 + e') = mSe S j kl ke e A' Z' n (s * 16 + e')
      rw [s1.2 _ (ho e' he' hee s), s2.2 _ (ho e' he' hee s)]
      exact hk.1 s hs hb
theorem mSettle_b {S : jS} {n j kl ke e : Nat} {t t' : TT} (hn : n ≤ 16) (he : e < n) (hF : agF S n e t.1 t'.1) (hB : t.2.2.2 e = t'.2.2.2 e) : (mSettle S j kl ke n e t).2.2.2 e = (mSettle S j kl ke n e t').2.2.2 e := by
  obtain ⟨A, Z, M, BB⟩ := t
  obtain ⟨A', Z', M', BB'⟩ := t'
  have s1 := mSe_at (S := S) (j := j) (kl := kl) (ke := ke) (A := A) (Z := Z) (show e < 16 by omega) n
  have s2 := mSe_at (S := S) (j := j) (kl := kl) (ke := ke) (A := A') (Z := Z') (show e < 16 by omega) n
  have hSe : agZ S n e (mSe S j kl ke e A Z n) (mSe S j kl ke e A' Z' n) := by
    intro s hs hb
    rw [s1.1 s hs hb, s2.1 s hs hb]
    have hf := hF s hs hb
    unfold mLf
    rw [show A (s * 32 + (fe1 S e).toNatClampNeg * 2 + 0) = A' (s * 32 + (fe1 S e).toNatClampNeg * 2 + 0) from hf.1, show A (s * 32 + (fe1 S e).toNatClampNeg * 2 + 1) = A' (s * 32 + (fe1 S e).toNatClampNeg * 2 + 1) from hf.2]
  have hBr : mBr S n e (mSe S j kl ke e A Z n) = mBr S n e (mSe S j kl ke e A' Z' n) := by
    unfold mBr
    rw [mLk_c hSe n (Nat.le_refl n)]
  by_cases hc : ¬ isLateT j = 0 ∧ kd S e = 7
  · rw [mSettle_t hc.1 hc.2, mSettle_t hc.1 hc.2]
    exact upZ_c hBr (Or.inl rfl)
  · have q1 : mSettle S j kl ke n e (A, Z, M, BB) = (A, mSe S j kl ke e A Z n, upZ M e (mLs S e (mSe S j kl ke e A Z n) n), BB) := if_neg hc
    have q2 : mSettle S j kl ke n e (A', Z', M', BB') = (A', mSe S j kl ke e A' Z' n, upZ M' e (mLs S e (mSe S j kl ke e A' Z' n) n), BB') := if_neg hc
    rw [q1, q2]
    exact hB
/-- what a check says of its feed -/
theorem chk_bit {S : jS} {n nr nc nk s e : Nat} (hT : Told S n nr nc nk) (hP : PT S n nr) (hs : s < n) (he : e < n) (hb : bitR (sA S 40) s e = true) : mChk S (sA S 39) nr s e = true := by
  have hn := hT.1.2
  rw [bitR_W, hP.2.2.1 e he, mCB_bit (by omega) n (by omega)] at hb
  simp only [Bool.and_eq_true, decide_eq_true_eq] at hb
  exact hb.2
theorem chk_come {S : jS} {R : Nat → Int32} {nr s e : Nat} (h : mChk S R nr s e = true) : enB S e = true ∧ fe1 S e ≠ -1 ∧ bitW (R (fe1 S e).toNatClampNeg) s = true := by
  unfold mChk mCome at h
  simp only [Bool.and_eq_true, decide_eq_true_eq] at h
  exact ⟨decide_eq_true h.1.1.1.1, h.1.1.1.2, h.1.1.2⟩
theorem agF_of {S : jS} {n nr nc nk m e : Nat} {A A' : Nat → Int} (hT : Told S n nr nc nk) (hP : PT S n nr) (he : e < n) (hm : ∀ a, fe1 S e = nI a → a < 16 → a < m) (h : agA S m A A') : agF S n e A A' := by
  intro s hs hb
  have hn := hT.1.2
  have hc := chk_come (chk_bit hT hP hs he hb)
  obtain ⟨a, ha, hfe⟩ := (hT.2.2.2.2.2.1 e he).2.1.resolve_left hc.2.1
  have ham := hm a hfe (by omega)
  have hw := hc.2.2
  rw [hfe, nI_clamp (by omega)] at hw ⊢
  exact ⟨h s a 0 (by omega) ham (by decide) hw, h s a 1 (by omega) ham (by decide) hw⟩
theorem agT_k {S : jS} {n m : Nat} {K K' : Nat → Prop} {t t' : TT} (h : agT S n m K t t') (hk : ∀ x, x < n → K' x → K x) : agT S n m K' t t' := ⟨h.1, fun e he hK => h.2.1 e he (hk e he hK), h.2.2⟩
theorem mArr_ag {S : jS} {n nr nc nk m j kl ke : Nat} {p : Nat → Int} {K : Nat → Prop} {t t' : TT} (hT : Told S n nr nc nk) (hR : RF S n (sA S 39) n) (hm : m < n) (h : agT S n m K t t') (hB : ∀ i, i < m + 1 → t.2.2.2 i = t'.2.2.2 i) : agT S n (m + 1) K (mArr S j kl ke p m t) (mArr S j kl ke p m t') := by
  have hn := hT.1.2
  cases hs : stB S m with
  | true =>
    rw [mArr_s hs, mArr_s hs, hB m (by omega)]
    exact ⟨mDep_ag hR hn hm hs h.1, h.2.1, hB⟩
  | false =>
    cases hg : gaB S m with
    | true =>
      rw [mArr_g hs hg, mArr_g hs hg]
      exact ⟨mPass_ag hT hR hm hg hs h.1, h.2.1, hB⟩
    | false =>
      rw [mArr_n hs hg, mArr_n hs hg]
      refine ⟨fun s i f h1 h2 h3 hb => ?_, h.2.1, hB⟩
      by_cases him : i = m
      · subst him
        rcases (RF_bit hR h1 hn hm (by omega)).mp hb with ⟨q, _⟩ | ⟨_, q, _⟩
        · rw [hs] at q
          exact absurd q (by decide)
        · rw [hg] at q
          exact absurd q (by decide)
      · exact h.1 s i f h1 (by omega) h3 hb
theorem mStep_ag {S : jS} {n nr nc nk m j kl ke : Nat} {p : Nat → Int} {K : Nat → Prop} {t t' : TT} (hT : Told S n nr nc nk) (hP : PT S n nr) (hm : m < n) (h : agT S n m K t t') : agT S n (m + 1) (fun x => K x ∨ (x = m ∧ kd S m = 7)) (mStep S j kl ke n p m t) (mStep S j kl ke n p m t') := by
  have hn := hT.1.2
  have hB : ∀ i, i < m + 1 → upZ t.2.2.2 m 0 i = upZ t'.2.2.2 m 0 i := fun i hi => upZ_c rfl (by
    by_cases him : i = m
    · exact Or.inl him
    · exact Or.inr (h.2.2 i (by omega)))
  have h1 : agT S n m K (t.1, t.2.1, t.2.2.1, upZ t.2.2.2 m 0) (t'.1, t'.2.1, t'.2.2.1, upZ t'.2.2.2 m 0) := ⟨h.1, h.2.1, fun i hi => hB i (by omega)⟩
  unfold mStep
  by_cases hk : kd S m = 7
  · rw [if_pos hk, if_pos hk]
    have hfe : ∀ a, fe1 S m = nI a → a < 16 → a < m := by
      intro a ha h16
      rcases (hT.2.2.2.2.2.1 m hm).2.2.1 (fun z => by rw [hk] at z; exact absurd z (by decide)) with q | ⟨b, hb1, hb2⟩
      · rw [ha] at q
        exact absurd q (nI_ne1 (by omega))
      · rw [ha] at hb2
        have := (nI_eq (by omega) (by omega)).mp hb2
        omega
    have hF : agF S n m t.1 t'.1 := agF_of hT hP hm hfe h.1
    have hs := mSettle_ag (t := (t.1, t.2.1, t.2.2.1, upZ t.2.2.2 m 0)) (t' := (t'.1, t'.2.1, t'.2.2.1, upZ t'.2.2.2 m 0)) (j := j) (kl := kl) (ke := ke) hn hm hF h1
    refine agT_k (mArr_ag hT hP.1 hm hs ?_) (fun x _ hx => hx.imp id (fun z => z.1))
    intro i hi
    by_cases him : i = m
    · subst him
      exact mSettle_b (t := (t.1, t.2.1, t.2.2.1, upZ t.2.2.2 i 0)) (t' := (t'.1, t'.2.1, t'.2.2.1, upZ t'.2.2.2 i 0)) hn hm hF (hB i (by omega))
    · exact hs.2.2 i (by omega)
  · rw [if_neg hk, if_neg hk]
    exact agT_k (mArr_ag hT hP.1 hm h1 hB) (fun x _ hx => hx.elim id (fun z => absurd z.2 hk))
theorem mRk1_ag {S : jS} {n nr nc nk j kl ke : Nat} {p : Nat → Int} {t t' : TT} (hT : Told S n nr nc nk) (hP : PT S n nr) : ∀ m, m ≤ n → agT S n m (fun x => x < m ∧ kd S x = 7) (mRk1 S j kl ke n p t m) (mRk1 S j kl ke n p t' m)
  | 0, _ => ⟨fun _ _ _ _ h => absurd h (by omega), fun _ _ h => absurd h.1 (by omega), fun _ h => absurd h (by omega)⟩
  | m + 1, h => agT_k (mStep_ag hT hP (by omega) (mRk1_ag hT hP m (by omega))) (fun x _ hx => by
      by_cases hxm : x = m
      · subst hxm
        exact Or.inr ⟨rfl, hx.2⟩
      · exact Or.inl ⟨by omega, hx.2⟩)
theorem mRk2_ag {S : jS} {n nr nc nk j kl ke : Nat} {t t' : TT} (hT : Told S n nr nc nk) (hP : PT S n nr) (h0 : agT S n n (fun x => kd S x = 7) t t') : ∀ m, m ≤ n → agT S n n (fun x => kd S x = 7 ∨ (x < m ∧ (kd S x = 6 ∨ kd S x = 8))) (mRk2 S j kl ke n t m) (mRk2 S j kl ke n t' m)
  | 0, _ => agT_k h0 (fun x _ hx => hx.elim id (fun z => absurd z.1 (by omega)))
  | m + 1, h => by
    have hn := hT.1.2
    have ih := mRk2_ag (j := j) (kl := kl) (ke := ke) hT hP h0 m (by omega)
    show agT S n n _ (mSt2 S j kl ke n m (mRk2 S j kl ke n t m)) (mSt2 S j kl ke n m (mRk2 S j kl ke n t' m))
    by_cases hk : kd S m = 6 ∨ kd S m = 8
    · rw [mSt2_t hk, mSt2_t hk]
      have hF : agF S n m (mRk2 S j kl ke n t m).1 (mRk2 S j kl ke n t' m).1 := agF_of hT hP (by omega) (fun a ha h16 => by
        rcases (hT.2.2.2.2.2.1 m (by omega)).2.1 with q | ⟨b, hb1, hb2⟩
        · rw [ha] at q
          exact absurd q (nI_ne1 (by omega))
        · rw [ha] at hb2
          have := (nI_eq (by omega) (by omega)).mp hb2
          omega) ih.1
      refine agT_k (mSettle_ag (j := j) (kl := kl) (ke := ke) hn (by omega) hF ih) (fun x _ hx => ?_)
      rcases hx with hx | hx
      · exact Or.inl (Or.inl hx)
      · by_cases hxm : x = m
        · exact Or.inr hxm
        · exact Or.inl (Or.inr ⟨by omega, hx.2⟩)
    · rw [mSt2_f hk, mSt2_f hk]
      refine agT_k ih (fun x _ hx => ?_)
      rcases hx with hx | hx
      · exact Or.inl hx
      · by_cases hxm : x = m
        · subst hxm
          exact absurd hx.2 hk
        · exact Or.inr ⟨by omega, hx.2⟩
/-- reckon's answers do not hang on the tables before -/
theorem mRk_ag {S : jS} {n nr nc nk j kl ke : Nat} {p : Nat → Int} {t t' : TT} (hT : Told S n nr nc nk) (hP : PT S n nr) : agT S n n (fun x => kd S x = 6 ∨ kd S x = 7 ∨ kd S x = 8) (mRk S j kl ke n p t) (mRk S j kl ke n p t') :=
  agT_k (mRk2_ag hT hP (agT_k (mRk1_ag hT hP n (Nat.le_refl n)) (fun x h hx => ⟨h, hx⟩)) n (Nat.le_refl n)) (fun x h hx => hx.elim (fun z => Or.inr ⟨h, Or.inl z⟩) (fun z => z.elim Or.inl (fun z => Or.inr ⟨h, Or.inr z⟩)))
end
section
/-! The model's functions hang on what is told and on the paths' rows alone -/
/-- told alike, and the paths' rows the same -/
def TA (S S' : jS) : Prop := TS S S' ∧ S'.2.1 = S.2.1 ∧ ∀ i, i < 16 → sV S i < 4
theorem mkB_s {S S' : jS} (h : TA S S') {i f e : Nat} (hi : i < 16) : mkB S' i f e = mkB S i f e := by
  unfold mkB
  rw [kd_s h.1 hi]
theorem okC_s {S S' : jS} (h : TA S S') {s i e f : Nat} {v : Int32} (hi : i < 16) : okC S' s i e v f = okC S s i e v f := by
  unfold okC
  rw [mkB_s h hi, show sA S' 39 = sA S 39 from congrFun h.2.1 39]
theorem mSrc_s {S S' : jS} (h : TA S S') {j s i e : Nat} {A : Nat → Int} (hi : i < 16) : mSrc S' j A s i e = mSrc S j A s i e := by
  unfold mSrc
  rw [fe1_s h.1 hi, fe2_s h.1 hi, okC_s h hi, okC_s h hi, okC_s h hi, okC_s h hi]
theorem mP1_s {S S' : jS} (h : TA S S') {j q e s : Nat} {d : Int} {A : Nat → Int} (hq : q < 16) : mP1 S' j q e d s A = mP1 S j q e d s A := by
  unfold mP1
  rw [mSrc_s h hq, show sA S' 39 = sA S 39 from congrFun h.2.1 39]
theorem mPs_s {S S' : jS} (h : TA S S') {j q e : Nat} {d : Int} {A : Nat → Int} (hq : q < 16) : ∀ s, mPs S' j q e d A s = mPs S j q e d A s
  | 0 => rfl
  | s + 1 => by
    show mP1 S' j q e d s (mPs S' j q e d A s) = mP1 S j q e d s (mPs S j q e d A s)
    rw [mPs_s h hq s, mP1_s h hq]
theorem mPass_s {S S' : jS} (h : TA S S') {j q kl ke : Nat} {p : Int} {A : Nat → Int} (hq : q < 16) : mPass S' j q kl ke p A = mPass S j q kl ke p A := by
  unfold mPass
  rw [mPs_s h hq, mPs_s h hq]
theorem lgn_s {S S' : jS} (h : TA S S') {i : Nat} (hi : i < 16) : lgn S' i = lgn S i := by
  have hv := h.2.2 i hi
  unfold lgn lat skw
  rw [show sV S' = sV S from h.1.2.2.2, show sI S' (sV S i + 6) 1 = sI S (sV S i + 6) 1 from h.1.1 _ _ (by omega), show sI S' (i + 13) 7 = sI S (i + 13) 7 from h.1.1 _ _ (by omega)]
theorem mCrd_s {S S' : jS} (h : TA S S') {kl ke s e : Nat} (hs : s < 16) (he : e < 16) : mCrd S' kl ke s e = mCrd S kl ke s e := by
  have v1 := h.2.2 s hs
  have v2 := h.2.2 e he
  unfold mCrd lat
  rw [show sV S' = sV S from h.1.2.2.2, show sI S' (sV S s + 6) 1 = sI S (sV S s + 6) 1 from h.1.1 _ _ (by omega), show sI S' (sV S e + 6) 1 = sI S (sV S e + 6) 1 from h.1.1 _ _ (by omega), show sI S' (sV S s + 6) 4 = sI S (sV S s + 6) 4 from h.1.1 _ _ (by omega), show sI S' (sV S e + 6) 4 = sI S (sV S e + 6) 4 from h.1.1 _ _ (by omega)]
theorem uns_s {S S' : jS} (h : TA S S') {e : Nat} (he : e < 16) : uns S' (sV S' e) = uns S (sV S e) := by
  have v2 := h.2.2 e he
  unfold uns
  rw [show sV S' = sV S from h.1.2.2.2, show sI S' (sV S e + 6) 2 = sI S (sV S e + 6) 2 from h.1.1 _ _ (by omega)]
theorem per_s {S S' : jS} (h : TA S S') {e : Nat} (he : e < 16) : per S' (sV S' e) = per S (sV S e) := by
  have v2 := h.2.2 e he
  unfold per
  rw [show sV S' = sV S from h.1.2.2.2, show sI S' (sV S e + 6) 0 = sI S (sV S e + 6) 0 from h.1.1 _ _ (by omega)]
theorem mLf_s {S S' : jS} (h : TA S S') {j kl ke s e : Nat} {A : Nat → Int} (hs : s < 16) (he : e < 16) : mLf S' j kl ke A s e = mLf S j kl ke A s e := by
  unfold mLf
  rw [kd_s h.1 he, fe1_s h.1 he, lgn_s h hs, lgn_s h he, mCrd_s h hs he, uns_s h he, show sA S' 42 = sA S 42 from congrFun h.2.1 42]
theorem mSe_s {S S' : jS} (h : TA S S') {j kl ke e : Nat} {A Z : Nat → Int} (he : e < 16) : ∀ m, m ≤ 16 → mSe S' j kl ke e A Z m = mSe S j kl ke e A Z m
  | 0, _ => rfl
  | m + 1, hm => by
    unfold mSe
    rw [mSe_s h he m (by omega), mLf_s h (by omega) he, show sA S' 40 = sA S 40 from congrFun h.2.1 40]
theorem mLk_s {S S' : jS} (h : TA S S') {e : Nat} {Z : Nat → Int} : ∀ m, mLk S' e Z m = mLk S e Z m
  | 0 => rfl
  | m + 1 => by
    unfold mLk
    rw [mLk_s h m, show sA S' 40 = sA S 40 from congrFun h.2.1 40]
theorem mBr_s {S S' : jS} (h : TA S S') {n e : Nat} {Z : Nat → Int} (he : e < 16) : mBr S' n e Z = mBr S n e Z := by
  unfold mBr
  rw [mLk_s h, per_s h he]
theorem mLn_s {S S' : jS} (h : TA S S') {e : Nat} {b : Int} {Z : Nat → Int} : ∀ m, mLn S' e b Z m = mLn S e b Z m
  | 0 => rfl
  | m + 1 => by
    unfold mLn
    rw [mLn_s h m, show sA S' 40 = sA S 40 from congrFun h.2.1 40]
theorem mLo_s {S S' : jS} (h : TA S S') {e s : Nat} {Z : Nat → Int} : mLo S' e Z s = mLo S e Z s := by
  unfold mLo
  rw [show sA S' 40 = sA S 40 from congrFun h.2.1 40]
theorem mLs_s {S S' : jS} (h : TA S S') {e : Nat} {Z : Nat → Int} : ∀ m, mLs S' e Z m = mLs S e Z m
  | 0 => rfl
  | m + 1 => by
    unfold mLs
    rw [mLs_s h m, mLo_s h]
theorem mSettle_s {S S' : jS} (h : TA S S') {j kl ke n e : Nat} {t : TT} (hn : n ≤ 16) (he : e < 16) : mSettle S' j kl ke n e t = mSettle S j kl ke n e t := by
  unfold mSettle
  simp only [mSe_s h he n hn, mBr_s h he, mLn_s h, mLs_s h, kd_s h.1 he]
theorem mArr_s' {S S' : jS} (h : TA S S') {j kl ke m : Nat} {p : Nat → Int} {t : TT} (hm : m < 16) : mArr S' j kl ke p m t = mArr S j kl ke p m t := by
  unfold mArr
  rw [stB_s h.1 hm, gaB_s h.1 hm, mPass_s h hm]
theorem mStep_s {S S' : jS} (h : TA S S') {j kl ke n m : Nat} {p : Nat → Int} {t : TT} (hn : n ≤ 16) (hm : m < 16) : mStep S' j kl ke n p m t = mStep S j kl ke n p m t := by
  unfold mStep
  rw [mArr_s' h hm, mSettle_s h hn hm, kd_s h.1 hm]
theorem mRk1_s {S S' : jS} (h : TA S S') {j kl ke n : Nat} {p : Nat → Int} {t : TT} (hn : n ≤ 16) : ∀ m, m ≤ n → mRk1 S' j kl ke n p t m = mRk1 S j kl ke n p t m
  | 0, _ => rfl
  | m + 1, hm => by
    unfold mRk1
    rw [mRk1_s h hn m (by omega), mStep_s h hn (by omega)]
theorem mRk2_s {S S' : jS} (h : TA S S') {j kl ke n : Nat} {t : TT} (hn : n ≤ 16) : ∀ m, m ≤ n → mRk2 S' j kl ke n t m = mRk2 S j kl ke n t m
  | 0, _ => rfl
  | m + 1, hm => by
    unfold mRk2 mSt2
    rw [mRk2_s h hn m (by omega), mSettle_s h hn (by omega), kd_s h.1 (show m < 16 by omega)]
theorem mRk_s {S S' : jS} (h : TA S S') {j kl ke n : Nat} {p : Nat → Int} {t : TT} (hn : n ≤ 16) : mRk S' j kl ke n p t = mRk S j kl ke n p t := by
  unfold mRk
  rw [mRk1_s h hn n (Nat.le_refl n), mRk2_s h hn n (Nat.le_refl n)]
theorem mLe_s {S S' : jS} (h : S'.2.1 = S.2.1) {M : Nat → Int} : ∀ e, mLe S' M e = mLe S M e
  | 0 => rfl
  | e + 1 => by
    unfold mLe
    rw [mLe_s h e, show sA S' 40 = sA S 40 from congrFun h 40]
/-- the least of the ends hangs on the ends that are checked -/
theorem mLe_c {S : jS} {n nr nc nk : Nat} {M M' : Nat → Int} (hT : Told S n nr nc nk) (hP : PT S n nr) (h : ∀ e, e < n → kd S e = 6 ∨ kd S e = 7 ∨ kd S e = 8 → M e = M' e) : ∀ e, e ≤ n → mLe S M e = mLe S M' e
  | 0, _ => rfl
  | e + 1, he => by
    have ih := mLe_c hT hP h e (by omega)
    have hn := hT.1.2
    by_cases h0 : sA S 40 e ≠ 0
    · rw [mLe_t h0, mLe_t h0, ih]
      have hk : kd S e = 6 ∨ kd S e = 7 ∨ kd S e = 8 := by
        rw [hP.2.2.1 e (by omega)] at h0
        have hx : ∀ m, m ≤ 16 → mCB S (sA S 39) nr e m ≠ 0 → enB S e = true := by
          intro m
          induction m with
          | zero => exact fun _ z => absurd rfl z
          | succ m ihm =>
            intro hm hz
            unfold mCB at hz
            by_cases hc : mChk S (sA S 39) nr m e = true
            · exact (chk_come hc).1
            · rw [if_neg hc] at hz
              exact ihm (by omega) hz
        exact of_decide_eq_true (hx n hn h0)
      rw [h e (by omega) hk]
    · rw [mLe_f h0, mLe_f h0, ih]
end
section
/-! The calls that ask: what they keep, and what the timings answer -/
/-- the constants of a run of asking: the state before it, and what is told there -/
def QC : Type := jS × (Nat × Nat × Nat × Nat) × ((Nat → Nat) × (Nat → Nat) × (Nat → Nat)) × (Nat → Int)
def QC.S (Q : QC) : jS := Q.1
def QC.n (Q : QC) : Nat := Q.2.1.1
def QC.nr (Q : QC) : Nat := Q.2.1.2.1
def QC.nc (Q : QC) : Nat := Q.2.1.2.2.1
def QC.nk (Q : QC) : Nat := Q.2.1.2.2.2
def QC.w (Q : QC) : Nat → Nat := Q.2.2.1.1
def QC.kl (Q : QC) : Nat → Nat := Q.2.2.1.2.1
def QC.ke (Q : QC) : Nat → Nat := Q.2.2.1.2.2
def QC.p (Q : QC) : Nat → Int := Q.2.2.2
def QC.X (Q : QC) : jS := sPD Q.S Q.n Q.nr Q.w
def QC.T (Q : QC) (j : Nat) : TT := mRk Q.X j (Q.kl ((j - 1) / 2)) (Q.ke ((j - 1) / 2)) Q.n Q.p (fun _ => 0, fun _ => 0, fun _ => 0, fun _ => 0)
/-- what a call that asks may count on: Inv, told alike, the rows of the paths, and each fresh timing says what T says -/
def QC.EK (Q : QC) (x : Nat) : Prop := kd Q.X x = 6 ∨ kd Q.X x = 7 ∨ kd Q.X x = 8
def QC.A (Q : QC) (t : TT) (j : Nat) : Prop := agT Q.X Q.n Q.n Q.EK t (Q.T j)
def Inq (Q : QC) (S : jS) : Prop := Inv S Q.n Q.nr Q.nc Q.nk Q.w Q.kl Q.ke Q.p ∧ TS Q.S S ∧ ¬ sI S 38 5 = 0 ∧ S.2.1 = Q.X.2.1 ∧ ∀ j, 1 ≤ j → j < 7 → sI S (5 * j + 49) 8 = 0 ∨ Q.A (tOf S j) j
theorem Inq_TA {Q : QC} {S : jS} (h : Inq Q S) : TA Q.X S := by
  have t1 : TS Q.X S := TS_t (TS_s (TS_pd Q.S Q.n Q.nr Q.w)) h.2.1
  refine ⟨t1, h.2.2.2.1, ?_⟩
  have := h.1.1.2.2.2.2.1
  rw [show sV S = sV Q.X from t1.2.2.2] at this
  exact this
theorem Inq_PT {Q : QC} {S : jS} (h : Inq Q S) : PT S Q.n Q.nr := h.1.2.2.2.2.1.resolve_left h.2.2.1
theorem Inq_X {Q : QC} {S : jS} (h : Inq Q S) : Told Q.X Q.n Q.nr Q.nc Q.nk ∧ PT Q.X Q.n Q.nr := by
  have ta := Inq_TA h
  have ts := TS_s ta.1
  refine ⟨Told_s ts h.1.1, PT_s ts h.1.1 ?_ ?_ ?_ ?_ (Inq_PT h)⟩
  · exact (congrFun h.2.2.2.1 39).symm
  · exact (congrFun h.2.2.2.1 40).symm
  · exact (congrFun h.2.2.2.1 41).symm
  · exact (congrFun h.2.2.2.1 42).symm
theorem tOf_c {S S' : jS} {j : Nat} (h : ∀ a, 5 * j + 50 ≤ a → a ≤ 5 * j + 53 → sD S' a = sD S a) : tOf S' j = tOf S j := by
  unfold tOf
  rw [h _ (by omega) (by omega), h _ (by omega) (by omega), h _ (by omega) (by omega), h _ (by omega) (by omega)]
theorem sDel_1 {S : jS} {w : Nat → Nat} {n a f : Nat} (h : a ≠ 43) : sI (sDelays S w n 43) a f = sI S a f := by
  unfold sDelays
  split
  · show up2 (sDel S w n 43).1 43 3 1 a f = _
    exact up2_k _ _ h
  · rfl
/-- the paths are fresh: preparing both is preparing the delays -/
theorem sPD_d {S : jS} {n nr : Nat} {w : Nat → Nat} (h : ¬ sI S 38 5 = 0) : sPD S n nr w = sDelays S w n 43 := by
  unfold sPD
  rw [sPaths_1 h]
theorem Inq_d {Q : QC} {S : jS} (h : Inq Q S) : Inq Q (sDelays S Q.w Q.n 43) ∧ Inv2 (sDelays S Q.w Q.n 43) Q.n Q.nr Q.nc Q.nk Q.w Q.kl Q.ke Q.p := by
  have h2 := Inv_pd h.1
  rw [sPD_d h.2.2.1] at h2
  refine ⟨⟨h2.1, TS_t h.2.1 (TS_delays S Q.w Q.n (Or.inl rfl)), h2.2.1, (sDelays_A _ _ _ _).trans h.2.2.2.1, fun j h1 h7 => ?_⟩, h2⟩
  rw [sDel_1 (by omega)]
  refine (h.2.2.2.2 j h1 h7).imp id (fun z => ?_)
  have ht : tOf (sDelays S Q.w Q.n 43) j = tOf S j := tOf_c (fun a q1 _ => by
    have := sPD_D (S := S) (n := Q.n) (nr := Q.nr) (w := Q.w) (show 49 ≤ a by omega)
    rw [sPD_d h.2.2.1] at this
    exact this)
  rw [ht]
  exact z
theorem jOf_c {c : Nat} {b : Bool} : (jOf c b - 1) / 2 = c := by unfold jOf; split <;> omega
theorem sTm_o {X : jS} {n j kl ke k : Nat} {p : Nat → Int} (h : k ≠ j) : sI (sTm X n j kl ke p) (5 * k + 49) 8 = sI X (5 * k + 49) 8 ∧ tOf (sTm X n j kl ke p) k = tOf X k := by
  by_cases hf : sI X (5 * j + 49) 8 = 0
  · rw [sTm_0 hf]
    exact ⟨pI_k (by omega), tOf_c (fun a q1 q2 => sT_n (by omega))⟩
  · rw [sTm_1 hf]
    exact ⟨rfl, rfl⟩
theorem sTm_A {X : jS} {n j kl ke : Nat} {p : Nat → Int} : (sTm X n j kl ke p).2.1 = X.2.1 := by
  unfold sTm
  split <;> rfl
/-- a timing that is asked for is fresh, and says what T says -/
theorem Inq_tm {Q : QC} {S : jS} {c : Nat} {b : Bool} (h : Inq Q S) (hc : c < 3) : Inq Q (sTm (sPD S Q.n Q.nr Q.w) Q.n (jOf c b) (Q.kl c) (Q.ke c) Q.p) ∧ Q.A (tOf (sTm (sPD S Q.n Q.nr Q.w) Q.n (jOf c b) (Q.kl c) (Q.ke c) Q.p) (jOf c b)) (jOf c b) := by
  rw [sPD_d h.2.2.1]
  have hd := Inq_d h
  generalize sDelays S Q.w Q.n 43 = X at hd
  have hX := hd.1
  have h2 := hd.2
  have hj := jOf_l (b := b) hc
  have hj1 := jOf_1 (c := c) (b := b)
  have i2 := Inv_tm (c := c) h2 hj hj1 hc
  have hxx := Inq_X hX
  have hn := hxx.1.1.2
  have hag : Q.A (tOf (sTm X Q.n (jOf c b) (Q.kl c) (Q.ke c) Q.p) (jOf c b)) (jOf c b) := by
    by_cases hf : sI X (5 * jOf c b + 49) 8 = 0
    · have hok := mRk_ok (j := jOf c b) (kl := Q.kl c) (ke := Q.ke c) hX.1.1 h2.2.2.2.1.2.2.2 (rises_of hX.1 h2.2.2.2.2 hj1) (hX.1.2.2.1 c hc).2.2.1 (hX.1.2.2.1 c hc).2.2.2 (hX.1.2.2.2.1 _ hj).2
      rw [sTm_0 hf, show tOf (pI (sT X (jOf c b) (mRk X (jOf c b) (Q.kl c) (Q.ke c) Q.n Q.p (tOf X (jOf c b)))) (5 * jOf c b + 49) 8 1) (jOf c b) = mRk X (jOf c b) (Q.kl c) (Q.ke c) Q.n Q.p (tOf X (jOf c b)) from GT_of (S := sT X (jOf c b) _) (GT_s X _ _) hok, mRk_s (Inq_TA hX) hn]
      unfold QC.A QC.T
      rw [jOf_c]
      exact mRk_ag hxx.1 hxx.2
    · rw [sTm_1 hf]
      exact (hX.2.2.2.2 _ hj1 hj).resolve_left hf
  refine ⟨⟨i2.1, TS_t hX.2.1 (TS_tm _ _ _ _ _ _), i2.2.1, sTm_A.trans hX.2.2.2.1, fun k k1 k7 => ?_⟩, hag⟩
  by_cases hk : k = jOf c b
  · subst hk
    exact Or.inr hag
  · have ho := sTm_o (X := X) (n := Q.n) (kl := Q.kl c) (ke := Q.ke c) (p := Q.p) hk
    rw [ho.1, ho.2]
    exact hX.2.2.2.2 k k1 k7
section Q1
variable {l : Launch} {D : va_G} {ad : Nat → Nat} {tc : Nat → ClassId} {L : Nat} {xs : Nat → Int32} {S : jS} {E : List j_C} {sl x : Nat} {Q : QC}
theorem q_timing {c : Nat} {b : Bool} (h : Inq Q S) (hc : c < 3) : ∃ S', Inq Q S' ∧ Q.A (tOf S' (jOf c b)) (jOf c b) ∧ Cn l D ad tc L xs mX0_timing 4 107 [.ref 36, .int (nI c), .int (bI b)] (wd S E, sl) (some (.ref (5 * jOf c b + 50))) (wd S' E, sl) := by
  have ht := Inq_tm (b := b) h hc
  have h2 := Inv_pd h.1
  have hc' := h.1.2.2.1 c hc
  exact ⟨_, ht.1, ht.2, c_X0_timing h.1.1 h.1.2.1 hc hc'.1 hc'.2.1 hc'.2.2.1 hc'.2.2.2 h2.2.2.2.1.2.2.2 (rises_of h2.1 h2.2.2.2.2 jOf_1) (h.1.2.2.2.1 _ (jOf_l hc))⟩
theorem q_delays (h : Inq Q S) : ∃ S', Inq Q S' ∧ DT S' Q.n Q.w Q.p ∧ Cn l D ad tc L xs mX0_delays 4 88 [.ref 36] (wd S E, sl) (some (.ref 44)) (wd S' E, sl) := by
  have hd := Inq_d h
  exact ⟨_, hd.1, hd.2.2.2.2.2, c_X0_delays h.1.1 h.1.2.1⟩
theorem q_paths (h : Inq Q S) : Cn l D ad tc L xs mX0_paths 4 96 [.ref 36] (wd S E, sl) (some (.ref 39)) (wd S E, sl) := by
  have hp := c_X0_paths (l := l) (D := D) (ad := ad) (tc := tc) (L := L) (xs := xs) (E := E) (sl := sl) h.1.1
  rw [sPaths_1 h.2.2.1] at hp
  exact hp
end Q1
end
