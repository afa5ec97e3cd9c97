section
-- ===== PART A: goes FIRST, ahead of the names: the tables' words, and 'selects' of the private methods out of them =====
/-- a private method of a class that the tables say can be made, by its rows of tables_1 -/
def lw_okq (q : MethodName × Nat) : Prop := (q.1.cls ≠ "java/lang/invoke/MethodHandle" ∧ q.1.cls ≠ "java/lang/invoke/VarHandle") ∧ Cond.instantiable q.1.cls q.2 ∈ tables_1 ∧ Cond.privateMethod q.1 ∈ tables_1 ∧ Cond.instanceMethod q.1 ∈ tables_1
theorem lw_p0 : lw_okq (⟨"SlackHall$Paths", "join", "(II)V"⟩, 6) := ⟨⟨by decide +kernel, by decide +kernel⟩, List.mem_of_getElem? (i := 229) (by decide +kernel), List.mem_of_getElem? (i := 382) (by decide +kernel), List.mem_of_getElem? (i := 383) (by decide +kernel)⟩
theorem lw_p1 : lw_okq (⟨"SlackHall$Paths", "check", "(I)V"⟩, 6) := ⟨⟨by decide +kernel, by decide +kernel⟩, List.mem_of_getElem? (i := 229) (by decide +kernel), List.mem_of_getElem? (i := 390) (by decide +kernel), List.mem_of_getElem? (i := 391) (by decide +kernel)⟩
theorem lw_p2 : lw_okq (⟨"SlackHall$Delays", "burden", "(IF)V"⟩, 4) := ⟨⟨by decide +kernel, by decide +kernel⟩, List.mem_of_getElem? (i := 256) (by decide +kernel), List.mem_of_getElem? (i := 438) (by decide +kernel), List.mem_of_getElem? (i := 439) (by decide +kernel)⟩
theorem lw_p3 : lw_okq (⟨"SlackHall$Timing", "settle", "(ILSlackHall$Corner;)V"⟩, 9) := ⟨⟨by decide +kernel, by decide +kernel⟩, List.mem_of_getElem? (i := 278) (by decide +kernel), List.mem_of_getElem? (i := 466) (by decide +kernel), List.mem_of_getElem? (i := 467) (by decide +kernel)⟩
theorem lw_p4 : lw_okq (⟨"SlackHall$Timing", "leftForLate", "(IILSlackHall$Corner;)D"⟩, 9) := ⟨⟨by decide +kernel, by decide +kernel⟩, List.mem_of_getElem? (i := 278) (by decide +kernel), List.mem_of_getElem? (i := 474) (by decide +kernel), List.mem_of_getElem? (i := 475) (by decide +kernel)⟩
theorem lw_p5 : lw_okq (⟨"SlackHall$Timing", "leftForEarly", "(IILSlackHall$Corner;)D"⟩, 9) := ⟨⟨by decide +kernel, by decide +kernel⟩, List.mem_of_getElem? (i := 278) (by decide +kernel), List.mem_of_getElem? (i := 494) (by decide +kernel), List.mem_of_getElem? (i := 495) (by decide +kernel)⟩
theorem lw_p6 : lw_okq (⟨"SlackHall$Timing", "lend", "(I)V"⟩, 9) := ⟨⟨by decide +kernel, by decide +kernel⟩, List.mem_of_getElem? (i := 278) (by decide +kernel), List.mem_of_getElem? (i := 502) (by decide +kernel), List.mem_of_getElem? (i := 503) (by decide +kernel)⟩
theorem lw_p7 : lw_okq (⟨"SlackHall$Timing", "depart", "(ILSlackHall$Corner;)V"⟩, 9) := ⟨⟨by decide +kernel, by decide +kernel⟩, List.mem_of_getElem? (i := 278) (by decide +kernel), List.mem_of_getElem? (i := 512) (by decide +kernel), List.mem_of_getElem? (i := 513) (by decide +kernel)⟩
theorem lw_p8 : lw_okq (⟨"SlackHall$Timing", "delayOf", "(IILSlackHall$Corner;)D"⟩, 9) := ⟨⟨by decide +kernel, by decide +kernel⟩, List.mem_of_getElem? (i := 278) (by decide +kernel), List.mem_of_getElem? (i := 516) (by decide +kernel), List.mem_of_getElem? (i := 517) (by decide +kernel)⟩
theorem lw_p9 : lw_okq (⟨"SlackHall$Timing", "pass", "(ILSlackHall$Corner;)V"⟩, 9) := ⟨⟨by decide +kernel, by decide +kernel⟩, List.mem_of_getElem? (i := 278) (by decide +kernel), List.mem_of_getElem? (i := 526) (by decide +kernel), List.mem_of_getElem? (i := 527) (by decide +kernel)⟩
theorem lw_p10 : lw_okq (⟨"SlackHall$Timing", "sourceOf", "(II)I"⟩, 9) := ⟨⟨by decide +kernel, by decide +kernel⟩, List.mem_of_getElem? (i := 278) (by decide +kernel), List.mem_of_getElem? (i := 531) (by decide +kernel), List.mem_of_getElem? (i := 532) (by decide +kernel)⟩
theorem lw_p11 : lw_okq (⟨"SlackHall$Timing", "beats", "(III)Z"⟩, 9) := ⟨⟨by decide +kernel, by decide +kernel⟩, List.mem_of_getElem? (i := 278) (by decide +kernel), List.mem_of_getElem? (i := 539) (by decide +kernel), List.mem_of_getElem? (i := 540) (by decide +kernel)⟩
theorem lw_p12 : lw_okq (⟨"java/lang/Throwable", "fillInStackTrace", "(I)Ljava/lang/Throwable;"⟩, 6) := ⟨⟨by decide +kernel, by decide +kernel⟩, List.mem_of_getElem? (i := 620) (by decide +kernel), List.mem_of_getElem? (i := 618) (by decide +kernel), List.mem_of_getElem? (i := 619) (by decide +kernel)⟩
theorem lw_p13 : lw_okq (⟨"SlackHall$Paths", "isSafe", "(II)Z"⟩, 6) := ⟨⟨by decide +kernel, by decide +kernel⟩, List.mem_of_getElem? (i := 229) (by decide +kernel), List.mem_of_getElem? (i := 677) (by decide +kernel), List.mem_of_getElem? (i := 678) (by decide +kernel)⟩
theorem lw_p14 : lw_okq (⟨"SlackHall", "digestNode", "(JI)J"⟩, 4) := ⟨⟨by decide +kernel, by decide +kernel⟩, List.mem_of_getElem? (i := 33) (by decide +kernel), List.mem_of_getElem? (i := 712) (by decide +kernel), List.mem_of_getElem? (i := 713) (by decide +kernel)⟩
theorem lw_p15 : lw_okq (⟨"SlackHall$Timing", "worstStart", "(I)I"⟩, 9) := ⟨⟨by decide +kernel, by decide +kernel⟩, List.mem_of_getElem? (i := 278) (by decide +kernel), List.mem_of_getElem? (i := 757) (by decide +kernel), List.mem_of_getElem? (i := 758) (by decide +kernel)⟩
def lw_privs_1 : List (MethodName × Nat) := [(⟨"SlackHall$Paths", "join", "(II)V"⟩, 6), (⟨"SlackHall$Paths", "check", "(I)V"⟩, 6), (⟨"SlackHall$Delays", "burden", "(IF)V"⟩, 4), (⟨"SlackHall$Timing", "settle", "(ILSlackHall$Corner;)V"⟩, 9), (⟨"SlackHall$Timing", "leftForLate", "(IILSlackHall$Corner;)D"⟩, 9), (⟨"SlackHall$Timing", "leftForEarly", "(IILSlackHall$Corner;)D"⟩, 9), (⟨"SlackHall$Timing", "lend", "(I)V"⟩, 9), (⟨"SlackHall$Timing", "depart", "(ILSlackHall$Corner;)V"⟩, 9), (⟨"SlackHall$Timing", "delayOf", "(IILSlackHall$Corner;)D"⟩, 9), (⟨"SlackHall$Timing", "pass", "(ILSlackHall$Corner;)V"⟩, 9), (⟨"SlackHall$Timing", "sourceOf", "(II)I"⟩, 9), (⟨"SlackHall$Timing", "beats", "(III)Z"⟩, 9), (⟨"java/lang/Throwable", "fillInStackTrace", "(I)Ljava/lang/Throwable;"⟩, 6), (⟨"SlackHall$Paths", "isSafe", "(II)Z"⟩, 6), (⟨"SlackHall", "digestNode", "(JI)J"⟩, 4), (⟨"SlackHall$Timing", "worstStart", "(I)I"⟩, 9)]
theorem lw_r1 : ∀ q ∈ lw_privs_1, lw_okq q := List.forall_mem_cons.mpr ⟨lw_p0, List.forall_mem_cons.mpr ⟨lw_p1, List.forall_mem_cons.mpr ⟨lw_p2, List.forall_mem_cons.mpr ⟨lw_p3, List.forall_mem_cons.mpr ⟨lw_p4, List.forall_mem_cons.mpr ⟨lw_p5, List.forall_mem_cons.mpr ⟨lw_p6, List.forall_mem_cons.mpr ⟨lw_p7, List.forall_mem_cons.mpr ⟨lw_p8, List.forall_mem_cons.mpr ⟨lw_p9, List.forall_mem_cons.mpr ⟨lw_p10, List.forall_mem_cons.mpr ⟨lw_p11, List.forall_mem_cons.mpr ⟨lw_p12, List.forall_mem_cons.mpr ⟨lw_p13, List.forall_mem_cons.mpr ⟨lw_p14, List.forall_mem_cons.mpr ⟨lw_p15, fun _ h => absurd h List.not_mem_nil⟩⟩⟩⟩⟩⟩⟩⟩⟩⟩⟩⟩⟩⟩⟩⟩
theorem lw_p16 : lw_okq (⟨"SlackHall", "mustBeOpen", "(Z)V"⟩, 4) := ⟨⟨by decide +kernel, by decide +kernel⟩, List.mem_of_getElem? (i := 33) (by decide +kernel), List.mem_of_getElem? (i := 775) (by decide +kernel), List.mem_of_getElem? (i := 776) (by decide +kernel)⟩
theorem lw_p17 : lw_okq (⟨"SlackHall", "mustBePair", "(II)V"⟩, 4) := ⟨⟨by decide +kernel, by decide +kernel⟩, List.mem_of_getElem? (i := 33) (by decide +kernel), List.mem_of_getElem? (i := 912) (by decide +kernel), List.mem_of_getElem? (i := 913) (by decide +kernel)⟩
theorem lw_p18 : lw_okq (⟨"java/util/ArrayList", "add", "(Ljava/lang/Object;[Ljava/lang/Object;I)V"⟩, 3) := ⟨⟨by decide +kernel, by decide +kernel⟩, List.mem_of_getElem? (i := 980) (by decide +kernel), List.mem_of_getElem? (i := 1013) (by decide +kernel), List.mem_of_getElem? (i := 1014) (by decide +kernel)⟩
theorem lw_p19 : lw_okq (⟨"java/util/ArrayList", "grow", "()[Ljava/lang/Object;"⟩, 3) := ⟨⟨by decide +kernel, by decide +kernel⟩, List.mem_of_getElem? (i := 980) (by decide +kernel), List.mem_of_getElem? (i := 1017) (by decide +kernel), List.mem_of_getElem? (i := 1018) (by decide +kernel)⟩
theorem lw_p20 : lw_okq (⟨"java/util/ArrayList", "grow", "(I)[Ljava/lang/Object;"⟩, 3) := ⟨⟨by decide +kernel, by decide +kernel⟩, List.mem_of_getElem? (i := 980) (by decide +kernel), List.mem_of_getElem? (i := 1021) (by decide +kernel), List.mem_of_getElem? (i := 1022) (by decide +kernel)⟩
theorem lw_p21 : lw_okq (⟨"SlackHallModel", "start", "(ZI)Z"⟩, 7) := ⟨⟨by decide +kernel, by decide +kernel⟩, List.mem_of_getElem? (i := 974) (by decide +kernel), List.mem_of_getElem? (i := 1110) (by decide +kernel), List.mem_of_getElem? (i := 1111) (by decide +kernel)⟩
theorem lw_p22 : lw_okq (⟨"SlackHallModel", "refuse", "(ZI)Z"⟩, 7) := ⟨⟨by decide +kernel, by decide +kernel⟩, List.mem_of_getElem? (i := 974) (by decide +kernel), List.mem_of_getElem? (i := 1114) (by decide +kernel), List.mem_of_getElem? (i := 1115) (by decide +kernel)⟩
theorem lw_p23 : lw_okq (⟨"SlackHallModel", "isNoClock", "(I)Z"⟩, 7) := ⟨⟨by decide +kernel, by decide +kernel⟩, List.mem_of_getElem? (i := 974) (by decide +kernel), List.mem_of_getElem? (i := 1125) (by decide +kernel), List.mem_of_getElem? (i := 1126) (by decide +kernel)⟩
theorem lw_p24 : lw_okq (⟨"SlackHallModel", "isNoNode", "(I)Z"⟩, 7) := ⟨⟨by decide +kernel, by decide +kernel⟩, List.mem_of_getElem? (i := 974) (by decide +kernel), List.mem_of_getElem? (i := 1152) (by decide +kernel), List.mem_of_getElem? (i := 1153) (by decide +kernel)⟩
theorem lw_p25 : lw_okq (⟨"SlackHallModel", "kind", "(I)I"⟩, 7) := ⟨⟨by decide +kernel, by decide +kernel⟩, List.mem_of_getElem? (i := 974) (by decide +kernel), List.mem_of_getElem? (i := 1156) (by decide +kernel), List.mem_of_getElem? (i := 1157) (by decide +kernel)⟩
theorem lw_p26 : lw_okq (⟨"SlackHallModel", "loadOf", "(I)F"⟩, 7) := ⟨⟨by decide +kernel, by decide +kernel⟩, List.mem_of_getElem? (i := 974) (by decide +kernel), List.mem_of_getElem? (i := 1175) (by decide +kernel), List.mem_of_getElem? (i := 1176) (by decide +kernel)⟩
theorem lw_p27 : lw_okq (⟨"SlackHallModel", "isStart", "(I)Z"⟩, 7) := ⟨⟨by decide +kernel, by decide +kernel⟩, List.mem_of_getElem? (i := 974) (by decide +kernel), List.mem_of_getElem? (i := 1235) (by decide +kernel), List.mem_of_getElem? (i := 1236) (by decide +kernel)⟩
theorem lw_p28 : lw_okq (⟨"SlackHallModel", "isEnd", "(I)Z"⟩, 7) := ⟨⟨by decide +kernel, by decide +kernel⟩, List.mem_of_getElem? (i := 974) (by decide +kernel), List.mem_of_getElem? (i := 1239) (by decide +kernel), List.mem_of_getElem? (i := 1240) (by decide +kernel)⟩
theorem lw_p29 : lw_okq (⟨"SlackHallModel", "toldOfNode", "(II)I"⟩, 7) := ⟨⟨by decide +kernel, by decide +kernel⟩, List.mem_of_getElem? (i := 974) (by decide +kernel), List.mem_of_getElem? (i := 1259) (by decide +kernel), List.mem_of_getElem? (i := 1260) (by decide +kernel)⟩
theorem lw_p30 : lw_okq (⟨"SlackHallModel", "takesOf", "(II)D"⟩, 7) := ⟨⟨by decide +kernel, by decide +kernel⟩, List.mem_of_getElem? (i := 974) (by decide +kernel), List.mem_of_getElem? (i := 1274) (by decide +kernel), List.mem_of_getElem? (i := 1275) (by decide +kernel)⟩
theorem lw_p31 : lw_okq (⟨"SlackHallModel", "isNoCorner", "(I)Z"⟩, 7) := ⟨⟨by decide +kernel, by decide +kernel⟩, List.mem_of_getElem? (i := 974) (by decide +kernel), List.mem_of_getElem? (i := 1292) (by decide +kernel), List.mem_of_getElem? (i := 1293) (by decide +kernel)⟩
def lw_privs_2 : List (MethodName × Nat) := [(⟨"SlackHall", "mustBeOpen", "(Z)V"⟩, 4), (⟨"SlackHall", "mustBePair", "(II)V"⟩, 4), (⟨"java/util/ArrayList", "add", "(Ljava/lang/Object;[Ljava/lang/Object;I)V"⟩, 3), (⟨"java/util/ArrayList", "grow", "()[Ljava/lang/Object;"⟩, 3), (⟨"java/util/ArrayList", "grow", "(I)[Ljava/lang/Object;"⟩, 3), (⟨"SlackHallModel", "start", "(ZI)Z"⟩, 7), (⟨"SlackHallModel", "refuse", "(ZI)Z"⟩, 7), (⟨"SlackHallModel", "isNoClock", "(I)Z"⟩, 7), (⟨"SlackHallModel", "isNoNode", "(I)Z"⟩, 7), (⟨"SlackHallModel", "kind", "(I)I"⟩, 7), (⟨"SlackHallModel", "loadOf", "(I)F"⟩, 7), (⟨"SlackHallModel", "isStart", "(I)Z"⟩, 7), (⟨"SlackHallModel", "isEnd", "(I)Z"⟩, 7), (⟨"SlackHallModel", "toldOfNode", "(II)I"⟩, 7), (⟨"SlackHallModel", "takesOf", "(II)D"⟩, 7), (⟨"SlackHallModel", "isNoCorner", "(I)Z"⟩, 7)]
theorem lw_r2 : ∀ q ∈ lw_privs_2, lw_okq q := List.forall_mem_cons.mpr ⟨lw_p16, List.forall_mem_cons.mpr ⟨lw_p17, List.forall_mem_cons.mpr ⟨lw_p18, List.forall_mem_cons.mpr ⟨lw_p19, List.forall_mem_cons.mpr ⟨lw_p20, List.forall_mem_cons.mpr ⟨lw_p21, List.forall_mem_cons.mpr ⟨lw_p22, List.forall_mem_cons.mpr ⟨lw_p23, List.forall_mem_cons.mpr ⟨lw_p24, List.forall_mem_cons.mpr ⟨lw_p25, List.forall_mem_cons.mpr ⟨lw_p26, List.forall_mem_cons.mpr ⟨lw_p27, List.forall_mem_cons.mpr ⟨lw_p28, List.forall_mem_cons.mpr ⟨lw_p29, List.forall_mem_cons.mpr ⟨lw_p30, List.forall_mem_cons.mpr ⟨lw_p31, fun _ h => absurd h List.not_mem_nil⟩⟩⟩⟩⟩⟩⟩⟩⟩⟩⟩⟩⟩⟩⟩⟩
theorem lw_p32 : lw_okq (⟨"SlackHallModel$Look", "borrowed", "(I)D"⟩, 6) := ⟨⟨by decide +kernel, by decide +kernel⟩, List.mem_of_getElem? (i := 1296) (by decide +kernel), List.mem_of_getElem? (i := 1308) (by decide +kernel), List.mem_of_getElem? (i := 1309) (by decide +kernel)⟩
theorem lw_p33 : lw_okq (⟨"SlackHallModel", "isChecked", "(II)Z"⟩, 7) := ⟨⟨by decide +kernel, by decide +kernel⟩, List.mem_of_getElem? (i := 974) (by decide +kernel), List.mem_of_getElem? (i := 1313) (by decide +kernel), List.mem_of_getElem? (i := 1314) (by decide +kernel)⟩
theorem lw_p34 : lw_okq (⟨"SlackHallModel", "winnerOf", "(II)I"⟩, 7) := ⟨⟨by decide +kernel, by decide +kernel⟩, List.mem_of_getElem? (i := 974) (by decide +kernel), List.mem_of_getElem? (i := 1317) (by decide +kernel), List.mem_of_getElem? (i := 1318) (by decide +kernel)⟩
theorem lw_p35 : lw_okq (⟨"SlackHallModel", "isMet", "(II)Z"⟩, 7) := ⟨⟨by decide +kernel, by decide +kernel⟩, List.mem_of_getElem? (i := 974) (by decide +kernel), List.mem_of_getElem? (i := 1327) (by decide +kernel), List.mem_of_getElem? (i := 1328) (by decide +kernel)⟩
theorem lw_p36 : lw_okq (⟨"SlackHallModel", "waysTo", "(II)I"⟩, 7) := ⟨⟨by decide +kernel, by decide +kernel⟩, List.mem_of_getElem? (i := 974) (by decide +kernel), List.mem_of_getElem? (i := 1331) (by decide +kernel), List.mem_of_getElem? (i := 1332) (by decide +kernel)⟩
theorem lw_p37 : lw_okq (⟨"SlackHallModel", "groupOf", "(I)I"⟩, 7) := ⟨⟨by decide +kernel, by decide +kernel⟩, List.mem_of_getElem? (i := 974) (by decide +kernel), List.mem_of_getElem? (i := 1335) (by decide +kernel), List.mem_of_getElem? (i := 1336) (by decide +kernel)⟩
theorem lw_p38 : lw_okq (⟨"SlackHallModel", "factor", "(IZ)D"⟩, 7) := ⟨⟨by decide +kernel, by decide +kernel⟩, List.mem_of_getElem? (i := 974) (by decide +kernel), List.mem_of_getElem? (i := 1345) (by decide +kernel), List.mem_of_getElem? (i := 1346) (by decide +kernel)⟩
theorem lw_p39 : lw_okq (⟨"SlackHallModel$Look", "arrivals", "(IZ)[[D"⟩, 6) := ⟨⟨by decide +kernel, by decide +kernel⟩, List.mem_of_getElem? (i := 1296) (by decide +kernel), List.mem_of_getElem? (i := 1355) (by decide +kernel), List.mem_of_getElem? (i := 1356) (by decide +kernel)⟩
theorem lw_p40 : lw_okq (⟨"SlackHallModel", "isNoPair", "(II)Z"⟩, 7) := ⟨⟨by decide +kernel, by decide +kernel⟩, List.mem_of_getElem? (i := 974) (by decide +kernel), List.mem_of_getElem? (i := 1407) (by decide +kernel), List.mem_of_getElem? (i := 1408) (by decide +kernel)⟩
theorem lw_p41 : lw_okq (⟨"SlackHallModel", "isOdd", "(II)Z"⟩, 7) := ⟨⟨by decide +kernel, by decide +kernel⟩, List.mem_of_getElem? (i := 974) (by decide +kernel), List.mem_of_getElem? (i := 1411) (by decide +kernel), List.mem_of_getElem? (i := 1412) (by decide +kernel)⟩
theorem lw_p42 : lw_okq (⟨"SlackHallModel", "leftOf", "(IIIZ)D"⟩, 7) := ⟨⟨by decide +kernel, by decide +kernel⟩, List.mem_of_getElem? (i := 974) (by decide +kernel), List.mem_of_getElem? (i := 1419) (by decide +kernel), List.mem_of_getElem? (i := 1420) (by decide +kernel)⟩
theorem lw_p43 : lw_okq (⟨"SlackHallModel", "leftIn", "(IIZ)D"⟩, 7) := ⟨⟨by decide +kernel, by decide +kernel⟩, List.mem_of_getElem? (i := 974) (by decide +kernel), List.mem_of_getElem? (i := 1432) (by decide +kernel), List.mem_of_getElem? (i := 1433) (by decide +kernel)⟩
theorem lw_p44 : lw_okq (⟨"SlackHallModel", "borrowOf", "(II)D"⟩, 7) := ⟨⟨by decide +kernel, by decide +kernel⟩, List.mem_of_getElem? (i := 974) (by decide +kernel), List.mem_of_getElem? (i := 1445) (by decide +kernel), List.mem_of_getElem? (i := 1446) (by decide +kernel)⟩
theorem lw_p45 : lw_okq (⟨"SlackHallModel", "worstOf", "(II)I"⟩, 7) := ⟨⟨by decide +kernel, by decide +kernel⟩, List.mem_of_getElem? (i := 974) (by decide +kernel), List.mem_of_getElem? (i := 1457) (by decide +kernel), List.mem_of_getElem? (i := 1458) (by decide +kernel)⟩
theorem lw_p46 : lw_okq (⟨"SlackHallModel", "told", "(I)I"⟩, 7) := ⟨⟨by decide +kernel, by decide +kernel⟩, List.mem_of_getElem? (i := 974) (by decide +kernel), List.mem_of_getElem? (i := 1468) (by decide +kernel), List.mem_of_getElem? (i := 1469) (by decide +kernel)⟩
theorem lw_p47 : lw_okq (⟨"SlackHallModel", "lacking", "(Z)I"⟩, 7) := ⟨⟨by decide +kernel, by decide +kernel⟩, List.mem_of_getElem? (i := 974) (by decide +kernel), List.mem_of_getElem? (i := 1472) (by decide +kernel), List.mem_of_getElem? (i := 1473) (by decide +kernel)⟩
def lw_privs_3 : List (MethodName × Nat) := [(⟨"SlackHallModel$Look", "borrowed", "(I)D"⟩, 6), (⟨"SlackHallModel", "isChecked", "(II)Z"⟩, 7), (⟨"SlackHallModel", "winnerOf", "(II)I"⟩, 7), (⟨"SlackHallModel", "isMet", "(II)Z"⟩, 7), (⟨"SlackHallModel", "waysTo", "(II)I"⟩, 7), (⟨"SlackHallModel", "groupOf", "(I)I"⟩, 7), (⟨"SlackHallModel", "factor", "(IZ)D"⟩, 7), (⟨"SlackHallModel$Look", "arrivals", "(IZ)[[D"⟩, 6), (⟨"SlackHallModel", "isNoPair", "(II)Z"⟩, 7), (⟨"SlackHallModel", "isOdd", "(II)Z"⟩, 7), (⟨"SlackHallModel", "leftOf", "(IIIZ)D"⟩, 7), (⟨"SlackHallModel", "leftIn", "(IIZ)D"⟩, 7), (⟨"SlackHallModel", "borrowOf", "(II)D"⟩, 7), (⟨"SlackHallModel", "worstOf", "(II)I"⟩, 7), (⟨"SlackHallModel", "told", "(I)I"⟩, 7), (⟨"SlackHallModel", "lacking", "(Z)I"⟩, 7)]
theorem lw_r3 : ∀ q ∈ lw_privs_3, lw_okq q := List.forall_mem_cons.mpr ⟨lw_p32, List.forall_mem_cons.mpr ⟨lw_p33, List.forall_mem_cons.mpr ⟨lw_p34, List.forall_mem_cons.mpr ⟨lw_p35, List.forall_mem_cons.mpr ⟨lw_p36, List.forall_mem_cons.mpr ⟨lw_p37, List.forall_mem_cons.mpr ⟨lw_p38, List.forall_mem_cons.mpr ⟨lw_p39, List.forall_mem_cons.mpr ⟨lw_p40, List.forall_mem_cons.mpr ⟨lw_p41, List.forall_mem_cons.mpr ⟨lw_p42, List.forall_mem_cons.mpr ⟨lw_p43, List.forall_mem_cons.mpr ⟨lw_p44, List.forall_mem_cons.mpr ⟨lw_p45, List.forall_mem_cons.mpr ⟨lw_p46, List.forall_mem_cons.mpr ⟨lw_p47, fun _ h => absurd h List.not_mem_nil⟩⟩⟩⟩⟩⟩⟩⟩⟩⟩⟩⟩⟩⟩⟩⟩
theorem lw_p48 : lw_okq (⟨"SlackHallModel", "isLacking", "(IZ)Z"⟩, 7) := ⟨⟨by decide +kernel, by decide +kernel⟩, List.mem_of_getElem? (i := 974) (by decide +kernel), List.mem_of_getElem? (i := 1476) (by decide +kernel), List.mem_of_getElem? (i := 1477) (by decide +kernel)⟩
theorem lw_p49 : lw_okq (⟨"SlackHallModel", "pairs", "(I)I"⟩, 7) := ⟨⟨by decide +kernel, by decide +kernel⟩, List.mem_of_getElem? (i := 974) (by decide +kernel), List.mem_of_getElem? (i := 1480) (by decide +kernel), List.mem_of_getElem? (i := 1481) (by decide +kernel)⟩
theorem lw_p50 : lw_okq (⟨"SlackHallModel", "leastOf", "(Z)D"⟩, 7) := ⟨⟨by decide +kernel, by decide +kernel⟩, List.mem_of_getElem? (i := 974) (by decide +kernel), List.mem_of_getElem? (i := 1488) (by decide +kernel), List.mem_of_getElem? (i := 1489) (by decide +kernel)⟩
theorem lw_p51 : lw_okq (⟨"SlackHallModel", "leastBy", "(II)D"⟩, 7) := ⟨⟨by decide +kernel, by decide +kernel⟩, List.mem_of_getElem? (i := 974) (by decide +kernel), List.mem_of_getElem? (i := 1498) (by decide +kernel), List.mem_of_getElem? (i := 1499) (by decide +kernel)⟩
theorem lw_p52 : lw_okq (⟨"SlackHallModel", "bestOf", "()I"⟩, 7) := ⟨⟨by decide +kernel, by decide +kernel⟩, List.mem_of_getElem? (i := 974) (by decide +kernel), List.mem_of_getElem? (i := 1506) (by decide +kernel), List.mem_of_getElem? (i := 1507) (by decide +kernel)⟩
theorem lw_p53 : lw_okq (⟨"SlackHallModel", "isUnder", "(II)Z"⟩, 7) := ⟨⟨by decide +kernel, by decide +kernel⟩, List.mem_of_getElem? (i := 974) (by decide +kernel), List.mem_of_getElem? (i := 1514) (by decide +kernel), List.mem_of_getElem? (i := 1515) (by decide +kernel)⟩
def lw_privs_4 : List (MethodName × Nat) := [(⟨"SlackHallModel", "isLacking", "(IZ)Z"⟩, 7), (⟨"SlackHallModel", "pairs", "(I)I"⟩, 7), (⟨"SlackHallModel", "leastOf", "(Z)D"⟩, 7), (⟨"SlackHallModel", "leastBy", "(II)D"⟩, 7), (⟨"SlackHallModel", "bestOf", "()I"⟩, 7), (⟨"SlackHallModel", "isUnder", "(II)Z"⟩, 7)]
theorem lw_r4 : ∀ q ∈ lw_privs_4, lw_okq q := List.forall_mem_cons.mpr ⟨lw_p48, List.forall_mem_cons.mpr ⟨lw_p49, List.forall_mem_cons.mpr ⟨lw_p50, List.forall_mem_cons.mpr ⟨lw_p51, List.forall_mem_cons.mpr ⟨lw_p52, List.forall_mem_cons.mpr ⟨lw_p53, fun _ h => absurd h List.not_mem_nil⟩⟩⟩⟩⟩⟩
def lw_privs : List (MethodName × Nat) := lw_privs_1 ++ (lw_privs_2 ++ (lw_privs_3 ++ (lw_privs_4)))
def lw_tbl : List Cond := k2_sels lw_privs ++ tables_1
theorem lw_privs_ok : ∀ q ∈ lw_privs, lw_okq q := by
  show ∀ q ∈ lw_privs_1 ++ (lw_privs_2 ++ (lw_privs_3 ++ (lw_privs_4))), lw_okq q
  exact List.forall_mem_append.mpr ⟨lw_r1, List.forall_mem_append.mpr ⟨lw_r2, List.forall_mem_append.mpr ⟨lw_r3, lw_r4⟩⟩⟩
/-- the streams that the claim lets the run draw from -/
abbrev lw_cs : List Choice := [Jvm.Choice.named "NaN.bits"]
theorem lw_bits : nanBits ∈ lw_cs := by first | decide | exact List.mem_cons_self | simp [lw_cs, nanBits]
end
section
/-! STUB while the little machine is made -/
def j_cl : List vw_C := []
def j_all : List Cond := lw_tbl.filter goodWord
def j_ty : List FieldType := [.int]
def j_nm : List (String × Nat × MethodName × String) := []
def j_ao : List String := []
end
section
/-! THE LITTLE MACHINE: a run of a method over a list of numbered cells; its rules stand on the kit's rows, and are used without them -/
abbrev j_C : Type := (Nat × vp_A) ⊕ (Nat × List Value)
abbrev j_H : Type := List j_C × Nat
abbrev j_M : Type := MethodName × ByteArray × Nat × Option FieldType
abbrev j_L : Type := List (Nat × Value)
def j_v (ad : Nat → Nat) : Value → Value := fun v => match v with
  | .ref a => .ref (ad a)
  | v => v
def j_f (ad : Nat → Nat) (f : Nat → Option Nat) : Nat → Option Nat := fun j => (f j).map ad
def j_c (ad : Nat → Nat) (tc : Nat → ClassId) : j_C → va_E := fun x => match x with
  | .inl (t, n, .inl f) => .inl (tc t, n, .inl f)
  | .inl (t, n, .inr (.inl f)) => .inl (tc t, n, .inr (.inl f))
  | .inl (t, n, .inr (.inr (.inl f))) => .inl (tc t, n, .inr (.inr (.inl f)))
  | .inl (t, n, .inr (.inr (.inr (.inl f)))) => .inl (tc t, n, .inr (.inr (.inr (.inl f))))
  | .inl (t, n, .inr (.inr (.inr (.inr f)))) => .inl (tc t, n, .inr (.inr (.inr (.inr (j_f ad f)))))
  | .inr (c, fs) => .inr (c, fs.map (j_v ad))
def j_w (ad : Nat → Nat) (tc : Nat → ClassId) (G : List j_C) : va_W := G.mapIdx (fun k c => (ad (k + 1), j_c ad tc c))
def j_tys (tc : Nat → ClassId) : List (ClassId × FieldType) := j_ty.mapIdx (fun t ty => (tc t, ty))
def j_A (ad : Nat → Nat) : Nat → Prop := fun q => ∃ k, q = ad (k + 1)
def j_KW (U : State) : Prop := (∀ w ∈ j_nm, va_Nw (.methodLinkNest w.1 w.2.1 w.2.2.1 w.2.2.2) U) ∧ ∀ C ∈ j_ao, va_AO C U
def j_P (D : va_G) (ad : Nat → Nat) (tc : Nat → ClassId) (H : Heap) (h : j_H) : Prop := va_P D j_cl (j_w ad tc h.1) H ∧ ∀ k, ad (h.1.length + 1 + k) = H.size + k
def j_lv (ad : Nat → Nat) (ls : Array Slot) (n : Nat) (lv : j_L) : Prop := lv_has ls n (lv.map (fun q => (q.1, j_v ad q.2)))
def j_Fix (D : va_G) (ad : Nat → Nat) (tc : Nat → ClassId) (L : Nat) (xs : Nat → Int32) (M : j_M) (p : Program) (s : State) (m : MethodId) (args : Array Value) (meth : Method) (c : Code) : Prop :=
  p.tables.exec = Jvm.exec ∧ c.code = M.2.1 ∧ c.maxLocals = M.2.2.1 ∧ s.vm.findClass M.1.cls = some m.cls ∧ (∀ w ∈ j_all, w.before args s = true) ∧ j_KW s ∧ va_K D j_cl (j_tys tc) s ∧ va_X (ad 0) L xs s s.heap ∧ ad 0 < s.heap.size ∧ meth.name = M.1.name ∧ ∀ i j, ad i = ad j → i = j
def j_ret (ins : Instr) (r : Option Value) : Prop := match ins, r with
  | .ireturn, some (.int _) => True
  | .lreturn, some (.long _) => True
  | .freturn, some (.float _) => True
  | .dreturn, some (.double _) => True
  | .areturn, some (.ref _) => True
  | .areturn, some .null => True
  | .return_, none => True
  | _, _ => False
/-- from this point of the method M, over the cells h, it comes to a return of r over the cells h' -/
def Rn (l : Launch) (D : va_G) (ad : Nat → Nat) (tc : Nat → ClassId) (L : Nat) (xs : Nat → Int32) (M : j_M) (d lo pc : Nat) (lv : j_L) (st : List Value) (h : j_H) (r : Option Value) (h' : j_H) : Prop :=
  (h.1.length ≤ h'.1.length ∧ h.2 ≤ h'.2) ∧
  ∀ (p : Program) (e : Env) (R : Room) (s : State) (m : MethodId) (args : Array Value) (below : List Frame) (meth : Method) (c : Code) (H : Heap) (locs : List Loc) (cells slots mc ms : Nat) (ls : Array Slot) (Q : State → Prop),
    j_Fix D ad tc L xs M p s m args meth c → d ≤ R.frames → lo ≤ R.locals → mc ≤ R.cells → ms ≤ R.slots →
    cells + (h'.1.length - h.1.length) = mc → slots + (h'.2 - h.2) = ms → j_lv ad ls M.2.2.1 lv → j_P D ad tc H h → va_S (j_A ad) s.heap H locs →
    (∀ (pcr : Nat) (lsr : Array Slot) (Hr : Heap) (locsr : List Loc) (ins : Instr), decode M.2.1 pcr = .ok (ins, 1) → j_ret ins r → j_P D ad tc Hr h' → va_S (j_A ad) s.heap Hr locsr → W p l e R s m args below meth c Hr locsr mc ms Q (F0 m pcr lsr (r.toList.map (j_v ad)))) →
    W p l e R s m args below meth c H locs cells slots Q (F0 m pc ls (st.map (j_v ad)))
section J1
variable {l : Launch} {D : va_G} {ad : Nat → Nat} {tc : Nat → ClassId} {L : Nat} {xs : Nat → Int32} {M : j_M} {d lo pc pc' : Nat} {lv lv' : j_L} {st st' : List Value} {h h' h2 : j_H} {r : Option Value}
/-- a step that changes neither cells nor locals -/
theorem rn_pure (f : ∀ (p : Program) (e : Env) (R : Room) (s : State) (m : MethodId) (args : Array Value) (below : List Frame) (meth : Method) (c : Code) (H : Heap) (locs : List Loc) (cells slots : Nat) (ls : Array Slot) (Q : State → Prop),
    j_Fix D ad tc L xs M p s m args meth c → d ≤ R.frames → lo ≤ R.locals → j_lv ad ls M.2.2.1 lv → j_P D ad tc H h → va_S (j_A ad) s.heap H locs → W p l e R s m args below meth c H locs cells slots Q (F0 m pc' ls (st'.map (j_v ad))) → W p l e R s m args below meth c H locs cells slots Q (F0 m pc ls (st.map (j_v ad))))
    (k : Rn l D ad tc L xs M d lo pc' lv st' h r h') : Rn l D ad tc L xs M d lo pc lv st h r h' :=
  ⟨k.1, fun p e R s m args below meth c H locs cells slots mc ms ls Q hF h1 h2 h3 h4 h5 h6 hl hP hS hQ => f p e R s m args below meth c H locs cells slots ls Q hF h1 h2 hl hP hS (k.2 p e R s m args below meth c H locs cells slots mc ms ls Q hF h1 h2 h3 h4 h5 h6 hl hP hS hQ)⟩
/-- a step that changes locals -/
theorem rn_loc (f : ∀ (p : Program) (e : Env) (R : Room) (s : State) (m : MethodId) (args : Array Value) (below : List Frame) (meth : Method) (c : Code) (H : Heap) (locs : List Loc) (cells slots : Nat) (ls : Array Slot) (Q : State → Prop),
    j_Fix D ad tc L xs M p s m args meth c → j_lv ad ls M.2.2.1 lv → (∀ ls : Array Slot, j_lv ad ls M.2.2.1 lv' → W p l e R s m args below meth c H locs cells slots Q (F0 m pc' ls (st'.map (j_v ad)))) → W p l e R s m args below meth c H locs cells slots Q (F0 m pc ls (st.map (j_v ad))))
    (k : Rn l D ad tc L xs M d lo pc' lv' st' h r h') : Rn l D ad tc L xs M d lo pc lv st h r h' :=
  ⟨k.1, fun p e R s m args below meth c H locs cells slots mc ms ls Q hF h1 h2 h3 h4 h5 h6 hl hP hS hQ => f p e R s m args below meth c H locs cells slots ls Q hF hl (fun ls hl => k.2 p e R s m args below meth c H locs cells slots mc ms ls Q hF h1 h2 h3 h4 h5 h6 hl hP hS hQ)⟩
/-- a step that changes a cell -/
theorem rn_cell (e1 : h2.1.length = h.1.length) (e2 : h2.2 = h.2) (f : ∀ (p : Program) (e : Env) (R : Room) (s : State) (m : MethodId) (args : Array Value) (below : List Frame) (meth : Method) (c : Code) (H : Heap) (locs : List Loc) (cells slots : Nat) (ls : Array Slot) (Q : State → Prop),
    j_Fix D ad tc L xs M p s m args meth c → j_lv ad ls M.2.2.1 lv → j_P D ad tc H h → va_S (j_A ad) s.heap H locs → (∀ (H : Heap) (locs : List Loc), j_P D ad tc H h2 → va_S (j_A ad) s.heap H locs → W p l e R s m args below meth c H locs cells slots Q (F0 m pc' ls (st'.map (j_v ad)))) → W p l e R s m args below meth c H locs cells slots Q (F0 m pc ls (st.map (j_v ad))))
    (k : Rn l D ad tc L xs M d lo pc' lv st' h2 r h') : Rn l D ad tc L xs M d lo pc lv st h r h' :=
  ⟨by rw [← e1, ← e2]; exact k.1, fun p e R s m args below meth c H locs cells slots mc ms ls Q hF h1 h2 h3 h4 h5 h6 hl hP hS hQ => f p e R s m args below meth c H locs cells slots ls Q hF hl hP hS (fun H locs hP hS => k.2 p e R s m args below meth c H locs cells slots mc ms ls Q hF h1 h2 h3 h4 (by rw [e1]; exact h5) (by rw [e2]; exact h6) hl hP hS hQ)⟩
/-- a step that makes a cell of n slots -/
theorem rn_make {x : j_C} {n : Nat} (f : ∀ (p : Program) (e : Env) (R : Room) (s : State) (m : MethodId) (args : Array Value) (below : List Frame) (meth : Method) (c : Code) (H : Heap) (locs : List Loc) (cells slots : Nat) (ls : Array Slot) (Q : State → Prop),
    j_Fix D ad tc L xs M p s m args meth c → cells + 1 ≤ R.cells → slots + n ≤ R.slots → j_P D ad tc H h → va_S (j_A ad) s.heap H locs → (∀ (H : Heap), j_P D ad tc H (h.1 ++ [x], h.2 + n) → va_S (j_A ad) s.heap H locs → W p l e R s m args below meth c H locs (cells + 1) (slots + n) Q (F0 m pc' ls (st'.map (j_v ad)))) → W p l e R s m args below meth c H locs cells slots Q (F0 m pc ls (st.map (j_v ad))))
    (k : Rn l D ad tc L xs M d lo pc' lv st' (h.1 ++ [x], h.2 + n) r h') : Rn l D ad tc L xs M d lo pc lv st h r h' := by
  have hk := k.1
  simp only [List.length_append, List.length_cons, List.length_nil] at hk
  refine ⟨⟨by omega, by omega⟩, fun p e R s m args below meth c H locs cells slots mc ms ls Q hF h1 h2 h3 h4 h5 h6 hl hP hS hQ => f p e R s m args below meth c H locs cells slots ls Q hF (by omega) (by omega) hP hS (fun H hP hS => k.2 p e R s m args below meth c H locs (cells + 1) (slots + n) mc ms ls Q hF h1 h2 h3 h4 ?_ ?_ hl hP hS hQ)⟩
  · simp only [List.length_append, List.length_cons, List.length_nil]
    omega
  · show slots + n + (h'.2 - (h.2 + n)) = ms
    omega
end J1
end
section
/-! the locals of the little machine: what is known of them, by their numbers -/
def j_g : j_L → Nat → Option Value := fun lv i => match lv with
  | [] => none
  | q :: r => if q.1 = i then some q.2 else j_g r i
def j_s1 (i : Nat) (v : Value) (lv : j_L) : j_L := (i, v) :: lv.filter (fun q => !(q.1 == i) && !(q.1 + 1 == i && q.2.category == 2))
def j_s2 (i : Nat) (v : Value) (lv : j_L) : j_L := (i, v) :: lv.filter (fun q => !(q.1 == i) && (!(q.1 == i + 1) && !(q.1 + 1 == i && q.2.category == 2)))
theorem j_cat {ad : Nat → Nat} (v : Value) : (j_v ad v).category = v.category := by cases v <;> rfl
theorem j_g_mem : ∀ {lv : j_L} {i : Nat} {v : Value}, j_g lv i = some v → (i, v) ∈ lv
  | [], i, v, h => by simp [j_g] at h
  | q :: r, i, v, h => by
    unfold j_g at h
    split at h
    · rename_i e
      cases h
      subst e
      exact List.mem_cons_self
    · exact List.mem_cons_of_mem _ (j_g_mem h)
theorem j_at {ad : Nat → Nat} {ls : Array Slot} {n : Nat} {lv : j_L} (h : j_lv ad ls n lv) {i : Nat} {v : Value} (hg : j_g lv i = some v) : ls[i]? = some (.val (j_v ad v)) :=
  h.2.2 (i, j_v ad v) (List.mem_map.mpr ⟨(i, v), j_g_mem hg, rfl⟩)
theorem j_s1_map {ad : Nat → Nat} {i : Nat} {v : Value} {lv : j_L} : (i, j_v ad v) :: (lv.map (fun q => (q.1, j_v ad q.2))).filter (fun q => !(q.1 == i) && !(q.1 + 1 == i && q.2.category == 2)) = (j_s1 i v lv).map (fun q => (q.1, j_v ad q.2)) := by
  unfold j_s1
  rw [List.map_cons, List.filter_map]
  congr 2
  refine List.filter_congr fun q _ => ?_
  simp [j_cat]
theorem j_s2_map {ad : Nat → Nat} {i : Nat} {v : Value} {lv : j_L} : (i, j_v ad v) :: (lv.map (fun q => (q.1, j_v ad q.2))).filter (fun q => !(q.1 == i) && (!(q.1 == i + 1) && !(q.1 + 1 == i && q.2.category == 2))) = (j_s2 i v lv).map (fun q => (q.1, j_v ad q.2)) := by
  unfold j_s2
  rw [List.map_cons, List.filter_map]
  congr 2
  refine List.filter_congr fun q _ => ?_
  simp [j_cat]
/-- fewer locals known -/
theorem rn_sub {l : Launch} {D : va_G} {ad : Nat → Nat} {tc : Nat → ClassId} {L : Nat} {xs : Nat → Int32} {M : j_M} {d lo pc : Nat} {lv lv' : j_L} {st : List Value} {h h' : j_H} {r : Option Value} (hs : ∀ q ∈ lv', q ∈ lv) (k : Rn l D ad tc L xs M d lo pc lv' st h r h') : Rn l D ad tc L xs M d lo pc lv st h r h' :=
  ⟨k.1, fun p e R s m args below meth c H locs cells slots mc ms ls Q hF h1 h2 h3 h4 h5 h6 hl hP hS hQ => k.2 p e R s m args below meth c H locs cells slots mc ms ls Q hF h1 h2 h3 h4 h5 h6 ⟨hl.1, hl.2.1, fun q hq => by
    obtain ⟨q0, hq0, e⟩ := List.mem_map.mp hq
    exact hl.2.2 q (List.mem_map.mpr ⟨q0, hs q0 hq0, e⟩)⟩ hP hS hQ⟩
end
section
section J2
variable {l : Launch} {D : va_G} {ad : Nat → Nat} {tc : Nat → ClassId} {L : Nat} {xs : Nat → Int32} {M : j_M} {d lo pc : Nat} {lv : j_L} {st : List Value} {h h' : j_H} {r : Option Value}
theorem rn_iconst {n : Int} {v : Int32} (hd : decode M.2.1 pc = .ok (.iconst n, 1)) (hv : Int32.ofInt n = v) (k : Rn l D ad tc L xs M d lo (pc + 1) lv (.int v :: st) h r h') : Rn l D ad tc L xs M d lo pc lv (st) h r h' :=
  rn_pure (fun p e R s m args below meth c H locs cells slots ls Q hF hd1 hd2 hl hP hS k => lv_iconst hF.1 hF.2.1 hd hv k) k
theorem rn_bipush {n : Int} {v : Int32} (hd : decode M.2.1 pc = .ok (.bipush n, 2)) (hv : (Int8.ofInt n).toInt32 = v) (k : Rn l D ad tc L xs M d lo (pc + 2) lv (.int v :: st) h r h') : Rn l D ad tc L xs M d lo pc lv (st) h r h' :=
  rn_pure (fun p e R s m args below meth c H locs cells slots ls Q hF hd1 hd2 hl hP hS k => lv_bipush hF.1 hF.2.1 hd hv k) k
theorem rn_sipush {n : Int} {v : Int32} (hd : decode M.2.1 pc = .ok (.sipush n, 3)) (hv : (Int16.ofInt n).toInt32 = v) (k : Rn l D ad tc L xs M d lo (pc + 3) lv (.int v :: st) h r h') : Rn l D ad tc L xs M d lo pc lv (st) h r h' :=
  rn_pure (fun p e R s m args below meth c H locs cells slots ls Q hF hd1 hd2 hl hP hS k => lv_sipush hF.1 hF.2.1 hd hv k) k
theorem rn_lconst {n : Fin 2} {v : Int64} (hd : decode M.2.1 pc = .ok (.lconst n, 1)) (hv : Int64.ofNat (n : Nat) = v) (k : Rn l D ad tc L xs M d lo (pc + 1) lv (.long v :: st) h r h') : Rn l D ad tc L xs M d lo pc lv (st) h r h' :=
  rn_pure (fun p e R s m args below meth c H locs cells slots ls Q hF hd1 hd2 hl hP hS k => lv_lconst hF.1 hF.2.1 hd hv k) k
theorem rn_fconst0  (hd : decode M.2.1 pc = .ok (.fconst 0, 1)) (k : Rn l D ad tc L xs M d lo (pc + 1) lv (.float FP.fconst0 :: st) h r h') : Rn l D ad tc L xs M d lo pc lv (st) h r h' :=
  rn_pure (fun p e R s m args below meth c H locs cells slots ls Q hF hd1 hd2 hl hP hS k => lv_fconst0 hF.1 hF.2.1 hd k) k
theorem rn_fconst1  (hd : decode M.2.1 pc = .ok (.fconst 1, 1)) (k : Rn l D ad tc L xs M d lo (pc + 1) lv (.float FP.fconst1 :: st) h r h') : Rn l D ad tc L xs M d lo pc lv (st) h r h' :=
  rn_pure (fun p e R s m args below meth c H locs cells slots ls Q hF hd1 hd2 hl hP hS k => lv_fconst1 hF.1 hF.2.1 hd k) k
theorem rn_fconst2  (hd : decode M.2.1 pc = .ok (.fconst 2, 1)) (k : Rn l D ad tc L xs M d lo (pc + 1) lv (.float FP.fconst2 :: st) h r h') : Rn l D ad tc L xs M d lo pc lv (st) h r h' :=
  rn_pure (fun p e R s m args below meth c H locs cells slots ls Q hF hd1 hd2 hl hP hS k => lv_fconst2 hF.1 hF.2.1 hd k) k
theorem rn_dconst0  (hd : decode M.2.1 pc = .ok (.dconst 0, 1)) (k : Rn l D ad tc L xs M d lo (pc + 1) lv (.double FP.dconst0 :: st) h r h') : Rn l D ad tc L xs M d lo pc lv (st) h r h' :=
  rn_pure (fun p e R s m args below meth c H locs cells slots ls Q hF hd1 hd2 hl hP hS k => lv_dconst0 hF.1 hF.2.1 hd k) k
theorem rn_dconst1  (hd : decode M.2.1 pc = .ok (.dconst 1, 1)) (k : Rn l D ad tc L xs M d lo (pc + 1) lv (.double FP.dconst1 :: st) h r h') : Rn l D ad tc L xs M d lo pc lv (st) h r h' :=
  rn_pure (fun p e R s m args below meth c H locs cells slots ls Q hF hd1 hd2 hl hP hS k => lv_dconst1 hF.1 hF.2.1 hd k) k
theorem rn_null  (hd : decode M.2.1 pc = .ok (.aconst_null, 1)) (k : Rn l D ad tc L xs M d lo (pc + 1) lv (.null :: st) h r h') : Rn l D ad tc L xs M d lo pc lv (st) h r h' :=
  rn_pure (fun p e R s m args below meth c H locs cells slots ls Q hF hd1 hd2 hl hP hS k => lv_null hF.1 hF.2.1 hd k) k
theorem rn_ldc2d {index : Nat} {v : UInt64} (hd : decode M.2.1 pc = .ok (.ldc2_w index, 3)) (hw : Cond.constantDouble M.1.cls index v ∈ j_all) (k : Rn l D ad tc L xs M d lo (pc + 3) lv (.double v :: st) h r h') : Rn l D ad tc L xs M d lo pc lv (st) h r h' :=
  rn_pure (fun p e R s m args below meth c H locs cells slots ls Q hF hd1 hd2 hl hP hS k => lv_ldc2d hF.1 hF.2.1 hF.2.2.2.1 (hF.2.2.2.2.1 _ hw) hd k) k
theorem rn_ldcf {index : Nat} {v : UInt32} (hd : decode M.2.1 pc = .ok (.ldc index, 2)) (hw : Cond.constantFloat M.1.cls index v ∈ j_all) (k : Rn l D ad tc L xs M d lo (pc + 2) lv (.float v :: st) h r h') : Rn l D ad tc L xs M d lo pc lv (st) h r h' :=
  rn_pure (fun p e R s m args below meth c H locs cells slots ls Q hF hd1 hd2 hl hP hS k => lv_ldcf hF.1 hF.2.1 hF.2.2.2.1 (hF.2.2.2.2.1 _ hw) hd k) k
theorem rn_ldc {index : Nat} {v : Int32} (hd : decode M.2.1 pc = .ok (.ldc index, 2)) (hw : Cond.constant M.1.cls index v ∈ j_all) (k : Rn l D ad tc L xs M d lo (pc + 2) lv (.int v :: st) h r h') : Rn l D ad tc L xs M d lo pc lv (st) h r h' :=
  rn_pure (fun p e R s m args below meth c H locs cells slots ls Q hF hd1 hd2 hl hP hS k => lv_ldc hF.1 hF.2.1 hF.2.2.2.1 (hF.2.2.2.2.1 _ hw) hd k) k
theorem rn_ldcw {index : Nat} {v : Int32} (hd : decode M.2.1 pc = .ok (.ldc_w index, 3)) (hw : Cond.constant M.1.cls index v ∈ j_all) (k : Rn l D ad tc L xs M d lo (pc + 3) lv (.int v :: st) h r h') : Rn l D ad tc L xs M d lo pc lv (st) h r h' :=
  rn_pure (fun p e R s m args below meth c H locs cells slots ls Q hF hd1 hd2 hl hP hS k => lv_ldcw hF.1 hF.2.1 hF.2.2.2.1 (hF.2.2.2.2.1 _ hw) hd k) k
theorem rn_ldc2 {index : Nat} {v : Int64} (hd : decode M.2.1 pc = .ok (.ldc2_w index, 3)) (hw : Cond.constantLong M.1.cls index v ∈ j_all) (k : Rn l D ad tc L xs M d lo (pc + 3) lv (.long v :: st) h r h') : Rn l D ad tc L xs M d lo pc lv (st) h r h' :=
  rn_pure (fun p e R s m args below meth c H locs cells slots ls Q hF hd1 hd2 hl hP hS k => lv_ldc2 hF.1 hF.2.1 hF.2.2.2.1 (hF.2.2.2.2.1 _ hw) hd k) k
theorem rn_iload_n {k0 : Fin 4} {x : Int32} (hd : decode M.2.1 pc = .ok (.iload_n k0, 1)) (hg : j_g lv (k0 : Nat) = some (.int x)) (k : Rn l D ad tc L xs M d lo (pc + 1) lv (.int x :: st) h r h') : Rn l D ad tc L xs M d lo pc lv (st) h r h' :=
  rn_pure (fun p e R s m args below meth c H locs cells slots ls Q hF hd1 hd2 hl hP hS k => lv_iload_n hF.1 hF.2.1 hd rfl (j_at hl hg) k) k
theorem rn_iload {i : Nat} {x : Int32} (hd : decode M.2.1 pc = .ok (.iload i, 2)) (hg : j_g lv i = some (.int x)) (k : Rn l D ad tc L xs M d lo (pc + 2) lv (.int x :: st) h r h') : Rn l D ad tc L xs M d lo pc lv (st) h r h' :=
  rn_pure (fun p e R s m args below meth c H locs cells slots ls Q hF hd1 hd2 hl hP hS k => lv_iload hF.1 hF.2.1 hd (j_at hl hg) k) k
theorem rn_lload_n {k0 : Fin 4} {x : Int64} (hd : decode M.2.1 pc = .ok (.lload_n k0, 1)) (hg : j_g lv (k0 : Nat) = some (.long x)) (k : Rn l D ad tc L xs M d lo (pc + 1) lv (.long x :: st) h r h') : Rn l D ad tc L xs M d lo pc lv (st) h r h' :=
  rn_pure (fun p e R s m args below meth c H locs cells slots ls Q hF hd1 hd2 hl hP hS k => lv_lload_n hF.1 hF.2.1 hd rfl (j_at hl hg) k) k
theorem rn_lload {i : Nat} {x : Int64} (hd : decode M.2.1 pc = .ok (.lload i, 2)) (hg : j_g lv i = some (.long x)) (k : Rn l D ad tc L xs M d lo (pc + 2) lv (.long x :: st) h r h') : Rn l D ad tc L xs M d lo pc lv (st) h r h' :=
  rn_pure (fun p e R s m args below meth c H locs cells slots ls Q hF hd1 hd2 hl hP hS k => lv_lload hF.1 hF.2.1 hd (j_at hl hg) k) k
theorem rn_fload_n {k0 : Fin 4} {x : UInt32} (hd : decode M.2.1 pc = .ok (.fload_n k0, 1)) (hg : j_g lv (k0 : Nat) = some (.float x)) (k : Rn l D ad tc L xs M d lo (pc + 1) lv (.float x :: st) h r h') : Rn l D ad tc L xs M d lo pc lv (st) h r h' :=
  rn_pure (fun p e R s m args below meth c H locs cells slots ls Q hF hd1 hd2 hl hP hS k => lv_fload_n hF.1 hF.2.1 hd rfl (j_at hl hg) k) k
theorem rn_fload {i : Nat} {x : UInt32} (hd : decode M.2.1 pc = .ok (.fload i, 2)) (hg : j_g lv i = some (.float x)) (k : Rn l D ad tc L xs M d lo (pc + 2) lv (.float x :: st) h r h') : Rn l D ad tc L xs M d lo pc lv (st) h r h' :=
  rn_pure (fun p e R s m args below meth c H locs cells slots ls Q hF hd1 hd2 hl hP hS k => lv_fload hF.1 hF.2.1 hd (j_at hl hg) k) k
theorem rn_dload_n {k0 : Fin 4} {x : UInt64} (hd : decode M.2.1 pc = .ok (.dload_n k0, 1)) (hg : j_g lv (k0 : Nat) = some (.double x)) (k : Rn l D ad tc L xs M d lo (pc + 1) lv (.double x :: st) h r h') : Rn l D ad tc L xs M d lo pc lv (st) h r h' :=
  rn_pure (fun p e R s m args below meth c H locs cells slots ls Q hF hd1 hd2 hl hP hS k => lv_dload_n hF.1 hF.2.1 hd rfl (j_at hl hg) k) k
theorem rn_dload {i : Nat} {x : UInt64} (hd : decode M.2.1 pc = .ok (.dload i, 2)) (hg : j_g lv i = some (.double x)) (k : Rn l D ad tc L xs M d lo (pc + 2) lv (.double x :: st) h r h') : Rn l D ad tc L xs M d lo pc lv (st) h r h' :=
  rn_pure (fun p e R s m args below meth c H locs cells slots ls Q hF hd1 hd2 hl hP hS k => lv_dload hF.1 hF.2.1 hd (j_at hl hg) k) k
theorem rn_aload_n {k0 : Fin 4} {x : Nat} (hd : decode M.2.1 pc = .ok (.aload_n k0, 1)) (hg : j_g lv (k0 : Nat) = some (.ref x)) (k : Rn l D ad tc L xs M d lo (pc + 1) lv (.ref x :: st) h r h') : Rn l D ad tc L xs M d lo pc lv (st) h r h' :=
  rn_pure (fun p e R s m args below meth c H locs cells slots ls Q hF hd1 hd2 hl hP hS k => lv_aload_n hF.1 hF.2.1 hd rfl (j_at hl hg) k) k
theorem rn_aload {i : Nat} {x : Nat} (hd : decode M.2.1 pc = .ok (.aload i, 2)) (hg : j_g lv i = some (.ref x)) (k : Rn l D ad tc L xs M d lo (pc + 2) lv (.ref x :: st) h r h') : Rn l D ad tc L xs M d lo pc lv (st) h r h' :=
  rn_pure (fun p e R s m args below meth c H locs cells slots ls Q hF hd1 hd2 hl hP hS k => lv_aload hF.1 hF.2.1 hd (j_at hl hg) k) k
theorem rn_aload_nN {k0 : Fin 4} (hd : decode M.2.1 pc = .ok (.aload_n k0, 1)) (hg : j_g lv (k0 : Nat) = some .null) (k : Rn l D ad tc L xs M d lo (pc + 1) lv (.null :: st) h r h') : Rn l D ad tc L xs M d lo pc lv (st) h r h' :=
  rn_pure (fun p e R s m args below meth c H locs cells slots ls Q hF hd1 hd2 hl hP hS k => lv_aload_nN hF.1 hF.2.1 hd rfl (j_at hl hg) k) k
theorem rn_aloadN {i : Nat} (hd : decode M.2.1 pc = .ok (.aload i, 2)) (hg : j_g lv i = some .null) (k : Rn l D ad tc L xs M d lo (pc + 2) lv (.null :: st) h r h') : Rn l D ad tc L xs M d lo pc lv (st) h r h' :=
  rn_pure (fun p e R s m args below meth c H locs cells slots ls Q hF hd1 hd2 hl hP hS k => lv_aloadN hF.1 hF.2.1 hd (j_at hl hg) k) k
theorem rn_iadd {x y : Int32} (hd : decode M.2.1 pc = .ok (.iadd, 1)) (k : Rn l D ad tc L xs M d lo (pc + 1) lv (.int (x + y) :: st) h r h') : Rn l D ad tc L xs M d lo pc lv (.int y :: .int x :: st) h r h' :=
  rn_pure (fun p e R s m args below meth c H locs cells slots ls Q hF hd1 hd2 hl hP hS k => lv_iadd hF.1 hF.2.1 hd k) k
theorem rn_ladd {x y : Int64} (hd : decode M.2.1 pc = .ok (.ladd, 1)) (k : Rn l D ad tc L xs M d lo (pc + 1) lv (.long (x + y) :: st) h r h') : Rn l D ad tc L xs M d lo pc lv (.long y :: .long x :: st) h r h' :=
  rn_pure (fun p e R s m args below meth c H locs cells slots ls Q hF hd1 hd2 hl hP hS k => lv_ladd hF.1 hF.2.1 hd k) k
theorem rn_isub {x y : Int32} (hd : decode M.2.1 pc = .ok (.isub, 1)) (k : Rn l D ad tc L xs M d lo (pc + 1) lv (.int (x - y) :: st) h r h') : Rn l D ad tc L xs M d lo pc lv (.int y :: .int x :: st) h r h' :=
  rn_pure (fun p e R s m args below meth c H locs cells slots ls Q hF hd1 hd2 hl hP hS k => lv_isub hF.1 hF.2.1 hd k) k
theorem rn_lsub {x y : Int64} (hd : decode M.2.1 pc = .ok (.lsub, 1)) (k : Rn l D ad tc L xs M d lo (pc + 1) lv (.long (x - y) :: st) h r h') : Rn l D ad tc L xs M d lo pc lv (.long y :: .long x :: st) h r h' :=
  rn_pure (fun p e R s m args below meth c H locs cells slots ls Q hF hd1 hd2 hl hP hS k => lv_lsub hF.1 hF.2.1 hd k) k
theorem rn_imul {x y : Int32} (hd : decode M.2.1 pc = .ok (.imul, 1)) (k : Rn l D ad tc L xs M d lo (pc + 1) lv (.int (x * y) :: st) h r h') : Rn l D ad tc L xs M d lo pc lv (.int y :: .int x :: st) h r h' :=
  rn_pure (fun p e R s m args below meth c H locs cells slots ls Q hF hd1 hd2 hl hP hS k => lv_imul hF.1 hF.2.1 hd k) k
theorem rn_lmul {x y : Int64} (hd : decode M.2.1 pc = .ok (.lmul, 1)) (k : Rn l D ad tc L xs M d lo (pc + 1) lv (.long (x * y) :: st) h r h') : Rn l D ad tc L xs M d lo pc lv (.long y :: .long x :: st) h r h' :=
  rn_pure (fun p e R s m args below meth c H locs cells slots ls Q hF hd1 hd2 hl hP hS k => lv_lmul hF.1 hF.2.1 hd k) k
theorem rn_iand {x y : Int32} (hd : decode M.2.1 pc = .ok (.iand, 1)) (k : Rn l D ad tc L xs M d lo (pc + 1) lv (.int (x &&& y) :: st) h r h') : Rn l D ad tc L xs M d lo pc lv (.int y :: .int x :: st) h r h' :=
  rn_pure (fun p e R s m args below meth c H locs cells slots ls Q hF hd1 hd2 hl hP hS k => lv_iand hF.1 hF.2.1 hd k) k
theorem rn_land {x y : Int64} (hd : decode M.2.1 pc = .ok (.land, 1)) (k : Rn l D ad tc L xs M d lo (pc + 1) lv (.long (x &&& y) :: st) h r h') : Rn l D ad tc L xs M d lo pc lv (.long y :: .long x :: st) h r h' :=
  rn_pure (fun p e R s m args below meth c H locs cells slots ls Q hF hd1 hd2 hl hP hS k => lv_land hF.1 hF.2.1 hd k) k
theorem rn_ior {x y : Int32} (hd : decode M.2.1 pc = .ok (.ior, 1)) (k : Rn l D ad tc L xs M d lo (pc + 1) lv (.int (x ||| y) :: st) h r h') : Rn l D ad tc L xs M d lo pc lv (.int y :: .int x :: st) h r h' :=
  rn_pure (fun p e R s m args below meth c H locs cells slots ls Q hF hd1 hd2 hl hP hS k => lv_ior hF.1 hF.2.1 hd k) k
theorem rn_lor {x y : Int64} (hd : decode M.2.1 pc = .ok (.lor, 1)) (k : Rn l D ad tc L xs M d lo (pc + 1) lv (.long (x ||| y) :: st) h r h') : Rn l D ad tc L xs M d lo pc lv (.long y :: .long x :: st) h r h' :=
  rn_pure (fun p e R s m args below meth c H locs cells slots ls Q hF hd1 hd2 hl hP hS k => lv_lor hF.1 hF.2.1 hd k) k
theorem rn_ixor {x y : Int32} (hd : decode M.2.1 pc = .ok (.ixor, 1)) (k : Rn l D ad tc L xs M d lo (pc + 1) lv (.int (x ^^^ y) :: st) h r h') : Rn l D ad tc L xs M d lo pc lv (.int y :: .int x :: st) h r h' :=
  rn_pure (fun p e R s m args below meth c H locs cells slots ls Q hF hd1 hd2 hl hP hS k => lv_ixor hF.1 hF.2.1 hd k) k
theorem rn_lxor {x y : Int64} (hd : decode M.2.1 pc = .ok (.lxor, 1)) (k : Rn l D ad tc L xs M d lo (pc + 1) lv (.long (x ^^^ y) :: st) h r h') : Rn l D ad tc L xs M d lo pc lv (.long y :: .long x :: st) h r h' :=
  rn_pure (fun p e R s m args below meth c H locs cells slots ls Q hF hd1 hd2 hl hP hS k => lv_lxor hF.1 hF.2.1 hd k) k
theorem rn_ineg {x : Int32} (hd : decode M.2.1 pc = .ok (.ineg, 1)) (k : Rn l D ad tc L xs M d lo (pc + 1) lv (.int (-x) :: st) h r h') : Rn l D ad tc L xs M d lo pc lv (.int x :: st) h r h' :=
  rn_pure (fun p e R s m args below meth c H locs cells slots ls Q hF hd1 hd2 hl hP hS k => lv_ineg hF.1 hF.2.1 hd k) k
theorem rn_idiv {x y : Int32} (hd : decode M.2.1 pc = .ok (.idiv, 1)) (hne : ¬ y = 0) (k : Rn l D ad tc L xs M d lo (pc + 1) lv (.int (x / y) :: st) h r h') : Rn l D ad tc L xs M d lo pc lv (.int y :: .int x :: st) h r h' :=
  rn_pure (fun p e R s m args below meth c H locs cells slots ls Q hF hd1 hd2 hl hP hS k => lv_idiv hF.1 hF.2.1 hd hne k) k
theorem rn_irem {x y : Int32} (hd : decode M.2.1 pc = .ok (.irem, 1)) (hne : ¬ y = 0) (k : Rn l D ad tc L xs M d lo (pc + 1) lv (.int (x - x / y * y) :: st) h r h') : Rn l D ad tc L xs M d lo pc lv (.int y :: .int x :: st) h r h' :=
  rn_pure (fun p e R s m args below meth c H locs cells slots ls Q hF hd1 hd2 hl hP hS k => lv_irem hF.1 hF.2.1 hd hne k) k
theorem rn_ishl {x y : Int32} (hd : decode M.2.1 pc = .ok (.ishl, 1)) (k : Rn l D ad tc L xs M d lo (pc + 1) lv (.int (x <<< (y &&& 31)) :: st) h r h') : Rn l D ad tc L xs M d lo pc lv (.int y :: .int x :: st) h r h' :=
  rn_pure (fun p e R s m args below meth c H locs cells slots ls Q hF hd1 hd2 hl hP hS k => lv_ishl hF.1 hF.2.1 hd k) k
theorem rn_ishr {x y : Int32} (hd : decode M.2.1 pc = .ok (.ishr, 1)) (k : Rn l D ad tc L xs M d lo (pc + 1) lv (.int (x >>> (y &&& 31)) :: st) h r h') : Rn l D ad tc L xs M d lo pc lv (.int y :: .int x :: st) h r h' :=
  rn_pure (fun p e R s m args below meth c H locs cells slots ls Q hF hd1 hd2 hl hP hS k => lv_ishr hF.1 hF.2.1 hd k) k
theorem rn_iushr {x y v : Int32} (hd : decode M.2.1 pc = .ok (.iushr, 1)) (hv : (x.toUInt32 >>> (y.toUInt32 &&& Int32.toUInt32 31)).toInt32 = v) (k : Rn l D ad tc L xs M d lo (pc + 1) lv (.int v :: st) h r h') : Rn l D ad tc L xs M d lo pc lv (.int y :: .int x :: st) h r h' :=
  rn_pure (fun p e R s m args below meth c H locs cells slots ls Q hF hd1 hd2 hl hP hS k => lv_iushr hF.1 hF.2.1 hd hv k) k
theorem rn_i2l {x : Int32} {v : Int64} (hd : decode M.2.1 pc = .ok (.i2l, 1)) (hv : x.toInt64 = v) (k : Rn l D ad tc L xs M d lo (pc + 1) lv (.long v :: st) h r h') : Rn l D ad tc L xs M d lo pc lv (.int x :: st) h r h' :=
  rn_pure (fun p e R s m args below meth c H locs cells slots ls Q hF hd1 hd2 hl hP hS k => lv_i2l hF.1 hF.2.1 hd hv k) k
theorem rn_l2i {x : Int64} {v : Int32} (hd : decode M.2.1 pc = .ok (.l2i, 1)) (hv : x.toInt32 = v) (k : Rn l D ad tc L xs M d lo (pc + 1) lv (.int v :: st) h r h') : Rn l D ad tc L xs M d lo pc lv (.long x :: st) h r h' :=
  rn_pure (fun p e R s m args below meth c H locs cells slots ls Q hF hd1 hd2 hl hP hS k => lv_l2i hF.1 hF.2.1 hd hv k) k
theorem rn_lcmp {x y : Int64} (hd : decode M.2.1 pc = .ok (.lcmp, 1)) (k : Rn l D ad tc L xs M d lo (pc + 1) lv (.int (lg_cmp x y) :: st) h r h') : Rn l D ad tc L xs M d lo pc lv (.long y :: .long x :: st) h r h' :=
  rn_pure (fun p e R s m args below meth c H locs cells slots ls Q hF hd1 hd2 hl hP hS k => W.lcmp hF.1 hF.2.1 hd k) k
theorem rn_dup {a : Value} (hd : decode M.2.1 pc = .ok (.dup, 1)) (ha : a.category = 1) (k : Rn l D ad tc L xs M d lo (pc + 1) lv (a :: a :: st) h r h') : Rn l D ad tc L xs M d lo pc lv (a :: st) h r h' :=
  rn_pure (fun p e R s m args below meth c H locs cells slots ls Q hF hd1 hd2 hl hP hS k => lv_dup hF.1 hF.2.1 hd (by rw [j_cat]; exact ha) k) k
theorem rn_pop {a : Value} (hd : decode M.2.1 pc = .ok (.pop, 1)) (ha : a.category = 1) (k : Rn l D ad tc L xs M d lo (pc + 1) lv (st) h r h') : Rn l D ad tc L xs M d lo pc lv (a :: st) h r h' :=
  rn_pure (fun p e R s m args below meth c H locs cells slots ls Q hF hd1 hd2 hl hP hS k => lv_pop hF.1 hF.2.1 hd (by rw [j_cat]; exact ha) k) k
theorem rn_pop2 {a : Value} (hd : decode M.2.1 pc = .ok (.pop2, 1)) (ha : a.category = 2) (k : Rn l D ad tc L xs M d lo (pc + 1) lv (st) h r h') : Rn l D ad tc L xs M d lo pc lv (a :: st) h r h' :=
  rn_pure (fun p e R s m args below meth c H locs cells slots ls Q hF hd1 hd2 hl hP hS k => lv_pop2_2 hF.1 hF.2.1 hd (by rw [j_cat]; exact ha) k) k
theorem rn_dup_x1 {a b : Value} (hd : decode M.2.1 pc = .ok (.dup_x1, 1)) (ha : a.category = 1) (hb : b.category = 1) (k : Rn l D ad tc L xs M d lo (pc + 1) lv (a :: b :: a :: st) h r h') : Rn l D ad tc L xs M d lo pc lv (a :: b :: st) h r h' :=
  rn_pure (fun p e R s m args below meth c H locs cells slots ls Q hF hd1 hd2 hl hP hS k => lv_dup_x1 hF.1 hF.2.1 hd (by rw [j_cat]; exact ha) (by rw [j_cat]; exact hb) k) k
theorem rn_dup_x2 {a b c : Value} (hd : decode M.2.1 pc = .ok (.dup_x2, 1)) (ha : a.category = 1) (hb : b.category = 1) (hc : c.category = 1) (k : Rn l D ad tc L xs M d lo (pc + 1) lv (a :: b :: c :: a :: st) h r h') : Rn l D ad tc L xs M d lo pc lv (a :: b :: c :: st) h r h' :=
  rn_pure (fun p e R s m args below meth c H locs cells slots ls Q hF hd1 hd2 hl hP hS k => lv_dup_x2 hF.1 hF.2.1 hd (by rw [j_cat]; exact ha) (by rw [j_cat]; exact hb) (by rw [j_cat]; exact hc) k) k
theorem rn_dup2 {a b : Value} (hd : decode M.2.1 pc = .ok (.dup2, 1)) (ha : a.category = 1) (hb : b.category = 1) (k : Rn l D ad tc L xs M d lo (pc + 1) lv (a :: b :: a :: b :: st) h r h') : Rn l D ad tc L xs M d lo pc lv (a :: b :: st) h r h' :=
  rn_pure (fun p e R s m args below meth c H locs cells slots ls Q hF hd1 hd2 hl hP hS k => lv_dup2_11 hF.1 hF.2.1 hd (by rw [j_cat]; exact ha) (by rw [j_cat]; exact hb) k) k
theorem rn_dup2_2 {a : Value} (hd : decode M.2.1 pc = .ok (.dup2, 1)) (ha : a.category = 2) (k : Rn l D ad tc L xs M d lo (pc + 1) lv (a :: a :: st) h r h') : Rn l D ad tc L xs M d lo pc lv (a :: st) h r h' :=
  rn_pure (fun p e R s m args below meth c H locs cells slots ls Q hF hd1 hd2 hl hP hS k => lv_dup2_2 hF.1 hF.2.1 hd (by rw [j_cat]; exact ha) k) k
theorem rn_fadd {x y : UInt32} (hd : decode M.2.1 pc = .ok (.fadd, 1)) (hne : vf_n32 (FP.fadd x y)) (k : Rn l D ad tc L xs M d lo (pc + 1) lv (.float (FP.fadd x y) :: st) h r h') : Rn l D ad tc L xs M d lo pc lv (.float y :: .float x :: st) h r h' :=
  rn_pure (fun p e R s m args below meth c H locs cells slots ls Q hF hd1 hd2 hl hP hS k => lv_fadd hF.1 hF.2.1 hd hne k) k
theorem rn_fsub {x y : UInt32} (hd : decode M.2.1 pc = .ok (.fsub, 1)) (hne : vf_n32 (FP.fsub x y)) (k : Rn l D ad tc L xs M d lo (pc + 1) lv (.float (FP.fsub x y) :: st) h r h') : Rn l D ad tc L xs M d lo pc lv (.float y :: .float x :: st) h r h' :=
  rn_pure (fun p e R s m args below meth c H locs cells slots ls Q hF hd1 hd2 hl hP hS k => lv_fsub hF.1 hF.2.1 hd hne k) k
theorem rn_fmul {x y : UInt32} (hd : decode M.2.1 pc = .ok (.fmul, 1)) (hne : vf_n32 (FP.fmul x y)) (k : Rn l D ad tc L xs M d lo (pc + 1) lv (.float (FP.fmul x y) :: st) h r h') : Rn l D ad tc L xs M d lo pc lv (.float y :: .float x :: st) h r h' :=
  rn_pure (fun p e R s m args below meth c H locs cells slots ls Q hF hd1 hd2 hl hP hS k => lv_fmul hF.1 hF.2.1 hd hne k) k
theorem rn_fdiv {x y : UInt32} (hd : decode M.2.1 pc = .ok (.fdiv, 1)) (hne : vf_n32 (FP.fdiv x y)) (k : Rn l D ad tc L xs M d lo (pc + 1) lv (.float (FP.fdiv x y) :: st) h r h') : Rn l D ad tc L xs M d lo pc lv (.float y :: .float x :: st) h r h' :=
  rn_pure (fun p e R s m args below meth c H locs cells slots ls Q hF hd1 hd2 hl hP hS k => lv_fdiv hF.1 hF.2.1 hd hne k) k
theorem rn_fneg {x : UInt32} (hd : decode M.2.1 pc = .ok (.fneg, 1)) (k : Rn l D ad tc L xs M d lo (pc + 1) lv (.float (FP.fneg x) :: st) h r h') : Rn l D ad tc L xs M d lo pc lv (.float x :: st) h r h' :=
  rn_pure (fun p e R s m args below meth c H locs cells slots ls Q hF hd1 hd2 hl hP hS k => lv_fneg hF.1 hF.2.1 hd k) k
theorem rn_fcmp {x y : UInt32} {op : CmpOp} (hd : decode M.2.1 pc = .ok (.fcmp op, 1)) (k : Rn l D ad tc L xs M d lo (pc + 1) lv (.int (Op.cmpValue (FP.fcmp x y) op) :: st) h r h') : Rn l D ad tc L xs M d lo pc lv (.float y :: .float x :: st) h r h' :=
  rn_pure (fun p e R s m args below meth c H locs cells slots ls Q hF hd1 hd2 hl hP hS k => lv_fcmp hF.1 hF.2.1 hd k) k
theorem rn_dadd {x y : UInt64} (hd : decode M.2.1 pc = .ok (.dadd, 1)) (hne : vf_n64 (FP.dadd x y)) (k : Rn l D ad tc L xs M d lo (pc + 1) lv (.double (FP.dadd x y) :: st) h r h') : Rn l D ad tc L xs M d lo pc lv (.double y :: .double x :: st) h r h' :=
  rn_pure (fun p e R s m args below meth c H locs cells slots ls Q hF hd1 hd2 hl hP hS k => lv_dadd hF.1 hF.2.1 hd hne k) k
theorem rn_dsub {x y : UInt64} (hd : decode M.2.1 pc = .ok (.dsub, 1)) (hne : vf_n64 (FP.dsub x y)) (k : Rn l D ad tc L xs M d lo (pc + 1) lv (.double (FP.dsub x y) :: st) h r h') : Rn l D ad tc L xs M d lo pc lv (.double y :: .double x :: st) h r h' :=
  rn_pure (fun p e R s m args below meth c H locs cells slots ls Q hF hd1 hd2 hl hP hS k => lv_dsub hF.1 hF.2.1 hd hne k) k
theorem rn_dmul {x y : UInt64} (hd : decode M.2.1 pc = .ok (.dmul, 1)) (hne : vf_n64 (FP.dmul x y)) (k : Rn l D ad tc L xs M d lo (pc + 1) lv (.double (FP.dmul x y) :: st) h r h') : Rn l D ad tc L xs M d lo pc lv (.double y :: .double x :: st) h r h' :=
  rn_pure (fun p e R s m args below meth c H locs cells slots ls Q hF hd1 hd2 hl hP hS k => lv_dmul hF.1 hF.2.1 hd hne k) k
theorem rn_ddiv {x y : UInt64} (hd : decode M.2.1 pc = .ok (.ddiv, 1)) (hne : vf_n64 (FP.ddiv x y)) (k : Rn l D ad tc L xs M d lo (pc + 1) lv (.double (FP.ddiv x y) :: st) h r h') : Rn l D ad tc L xs M d lo pc lv (.double y :: .double x :: st) h r h' :=
  rn_pure (fun p e R s m args below meth c H locs cells slots ls Q hF hd1 hd2 hl hP hS k => lv_ddiv hF.1 hF.2.1 hd hne k) k
theorem rn_dneg {x : UInt64} (hd : decode M.2.1 pc = .ok (.dneg, 1)) (k : Rn l D ad tc L xs M d lo (pc + 1) lv (.double (FP.dneg x) :: st) h r h') : Rn l D ad tc L xs M d lo pc lv (.double x :: st) h r h' :=
  rn_pure (fun p e R s m args below meth c H locs cells slots ls Q hF hd1 hd2 hl hP hS k => lv_dneg hF.1 hF.2.1 hd k) k
theorem rn_dcmp {x y : UInt64} {op : CmpOp} (hd : decode M.2.1 pc = .ok (.dcmp op, 1)) (k : Rn l D ad tc L xs M d lo (pc + 1) lv (.int (Op.cmpValue (FP.dcmp x y) op) :: st) h r h') : Rn l D ad tc L xs M d lo pc lv (.double y :: .double x :: st) h r h' :=
  rn_pure (fun p e R s m args below meth c H locs cells slots ls Q hF hd1 hd2 hl hP hS k => lv_dcmp hF.1 hF.2.1 hd k) k
theorem rn_i2f {x : Int32} (hd : decode M.2.1 pc = .ok (.i2f, 1)) (k : Rn l D ad tc L xs M d lo (pc + 1) lv (.float (FP.i2f x) :: st) h r h') : Rn l D ad tc L xs M d lo pc lv (.int x :: st) h r h' :=
  rn_pure (fun p e R s m args below meth c H locs cells slots ls Q hF hd1 hd2 hl hP hS k => lv_i2f hF.1 hF.2.1 hd k) k
theorem rn_i2d {x : Int32} (hd : decode M.2.1 pc = .ok (.i2d, 1)) (k : Rn l D ad tc L xs M d lo (pc + 1) lv (.double (FP.i2d x) :: st) h r h') : Rn l D ad tc L xs M d lo pc lv (.int x :: st) h r h' :=
  rn_pure (fun p e R s m args below meth c H locs cells slots ls Q hF hd1 hd2 hl hP hS k => lv_i2d hF.1 hF.2.1 hd k) k
theorem rn_f2i {x : UInt32} (hd : decode M.2.1 pc = .ok (.f2i, 1)) (k : Rn l D ad tc L xs M d lo (pc + 1) lv (.int (FP.f2i x) :: st) h r h') : Rn l D ad tc L xs M d lo pc lv (.float x :: st) h r h' :=
  rn_pure (fun p e R s m args below meth c H locs cells slots ls Q hF hd1 hd2 hl hP hS k => lv_f2i hF.1 hF.2.1 hd k) k
theorem rn_f2l {x : UInt32} (hd : decode M.2.1 pc = .ok (.f2l, 1)) (k : Rn l D ad tc L xs M d lo (pc + 1) lv (.long (FP.f2l x) :: st) h r h') : Rn l D ad tc L xs M d lo pc lv (.float x :: st) h r h' :=
  rn_pure (fun p e R s m args below meth c H locs cells slots ls Q hF hd1 hd2 hl hP hS k => lv_f2l hF.1 hF.2.1 hd k) k
theorem rn_d2l {x : UInt64} (hd : decode M.2.1 pc = .ok (.d2l, 1)) (k : Rn l D ad tc L xs M d lo (pc + 1) lv (.long (FP.d2l x) :: st) h r h') : Rn l D ad tc L xs M d lo pc lv (.double x :: st) h r h' :=
  rn_pure (fun p e R s m args below meth c H locs cells slots ls Q hF hd1 hd2 hl hP hS k => lv_d2l hF.1 hF.2.1 hd k) k
theorem rn_f2d {x : UInt32} (hd : decode M.2.1 pc = .ok (.f2d, 1)) (hne : vf_n64 (FP.f2d x)) (k : Rn l D ad tc L xs M d lo (pc + 1) lv (.double (FP.f2d x) :: st) h r h') : Rn l D ad tc L xs M d lo pc lv (.float x :: st) h r h' :=
  rn_pure (fun p e R s m args below meth c H locs cells slots ls Q hF hd1 hd2 hl hP hS k => lv_f2d hF.1 hF.2.1 hd hne k) k
theorem rn_goto {off : Int} {tgt : Nat} (hd : decode M.2.1 pc = .ok (.goto off, 3)) (ht : (pc : Int) + off = (tgt : Int)) (k : Rn l D ad tc L xs M d lo tgt lv (st) h r h') : Rn l D ad tc L xs M d lo pc lv (st) h r h' :=
  rn_pure (fun p e R s m args below meth c H locs cells slots ls Q hF hd1 hd2 hl hP hS k => lv_goto hF.1 hF.2.1 hd ht k) k
theorem rn_ifnull {x : Nat} {off : Int} (hd : decode M.2.1 pc = .ok (.ifnull off, 3)) (k : Rn l D ad tc L xs M d lo (pc + 3) lv (st) h r h') : Rn l D ad tc L xs M d lo pc lv (.ref x :: st) h r h' :=
  rn_pure (fun p e R s m args below meth c H locs cells slots ls Q hF hd1 hd2 hl hP hS k => lv_ifnull hF.1 hF.2.1 hd k) k
theorem rn_ifnullN {off : Int} {tgt : Nat} (hd : decode M.2.1 pc = .ok (.ifnull off, 3)) (ht : (pc : Int) + off = (tgt : Int)) (k : Rn l D ad tc L xs M d lo tgt lv (st) h r h') : Rn l D ad tc L xs M d lo pc lv (.null :: st) h r h' :=
  rn_pure (fun p e R s m args below meth c H locs cells slots ls Q hF hd1 hd2 hl hP hS k => lv_ifnullN hF.1 hF.2.1 hd ht k) k
theorem rn_ifnonnull {x : Nat} {off : Int} {tgt : Nat} (hd : decode M.2.1 pc = .ok (.ifnonnull off, 3)) (ht : (pc : Int) + off = (tgt : Int)) (k : Rn l D ad tc L xs M d lo tgt lv (st) h r h') : Rn l D ad tc L xs M d lo pc lv (.ref x :: st) h r h' :=
  rn_pure (fun p e R s m args below meth c H locs cells slots ls Q hF hd1 hd2 hl hP hS k => lv_ifnonnull hF.1 hF.2.1 hd ht k) k
theorem rn_ifnonnullN {off : Int} (hd : decode M.2.1 pc = .ok (.ifnonnull off, 3)) (k : Rn l D ad tc L xs M d lo (pc + 3) lv (st) h r h') : Rn l D ad tc L xs M d lo pc lv (.null :: st) h r h' :=
  rn_pure (fun p e R s m args below meth c H locs cells slots ls Q hF hd1 hd2 hl hP hS k => lv_ifnonnullN hF.1 hF.2.1 hd k) k
theorem rn_if_eq {x : Int32} {off : Int} {tgt : Nat} (hd : decode M.2.1 pc = .ok (.ifCond .eq off, 3)) (ht : (pc : Int) + off = (tgt : Int)) (kt : x = 0 → Rn l D ad tc L xs M d lo tgt lv (st) h r h') (kf : ¬ x = 0 → Rn l D ad tc L xs M d lo (pc + 3) lv (st) h r h') : Rn l D ad tc L xs M d lo pc lv (.int x :: st) h r h' := by
  refine ⟨?_, fun p e R s m args below meth c H locs cells slots mc ms ls Q hF h1 h2 h3 h4 h5 h6 hl hP hS hQ => lv_if_eq hF.1 hF.2.1 hd ht (fun q => (kt q).2 p e R s m args below meth c H locs cells slots mc ms ls Q hF h1 h2 h3 h4 h5 h6 hl hP hS hQ) (fun q => (kf q).2 p e R s m args below meth c H locs cells slots mc ms ls Q hF h1 h2 h3 h4 h5 h6 hl hP hS hQ)⟩
  by_cases q : x = 0
  · exact (kt q).1
  · exact (kf (by first | exact q | exact fun z => q z | exact Decidable.not_not.mp q)).1
theorem rn_icmp_eq {x y : Int32} {off : Int} {tgt : Nat} (hd : decode M.2.1 pc = .ok (.if_icmp .eq off, 3)) (ht : (pc : Int) + off = (tgt : Int)) (kt : x = y → Rn l D ad tc L xs M d lo tgt lv (st) h r h') (kf : ¬ x = y → Rn l D ad tc L xs M d lo (pc + 3) lv (st) h r h') : Rn l D ad tc L xs M d lo pc lv (.int y :: .int x :: st) h r h' := by
  refine ⟨?_, fun p e R s m args below meth c H locs cells slots mc ms ls Q hF h1 h2 h3 h4 h5 h6 hl hP hS hQ => lv_icmp_eq hF.1 hF.2.1 hd ht (fun q => (kt q).2 p e R s m args below meth c H locs cells slots mc ms ls Q hF h1 h2 h3 h4 h5 h6 hl hP hS hQ) (fun q => (kf q).2 p e R s m args below meth c H locs cells slots mc ms ls Q hF h1 h2 h3 h4 h5 h6 hl hP hS hQ)⟩
  by_cases q : x = y
  · exact (kt q).1
  · exact (kf (by first | exact q | exact fun z => q z | exact Decidable.not_not.mp q)).1
theorem rn_if_ne {x : Int32} {off : Int} {tgt : Nat} (hd : decode M.2.1 pc = .ok (.ifCond .ne off, 3)) (ht : (pc : Int) + off = (tgt : Int)) (kt : ¬ x = 0 → Rn l D ad tc L xs M d lo tgt lv (st) h r h') (kf : x = 0 → Rn l D ad tc L xs M d lo (pc + 3) lv (st) h r h') : Rn l D ad tc L xs M d lo pc lv (.int x :: st) h r h' := by
  refine ⟨?_, fun p e R s m args below meth c H locs cells slots mc ms ls Q hF h1 h2 h3 h4 h5 h6 hl hP hS hQ => lv_if_ne hF.1 hF.2.1 hd ht (fun q => (kt q).2 p e R s m args below meth c H locs cells slots mc ms ls Q hF h1 h2 h3 h4 h5 h6 hl hP hS hQ) (fun q => (kf q).2 p e R s m args below meth c H locs cells slots mc ms ls Q hF h1 h2 h3 h4 h5 h6 hl hP hS hQ)⟩
  by_cases q : ¬ x = 0
  · exact (kt q).1
  · exact (kf (by first | exact q | exact fun z => q z | exact Decidable.not_not.mp q)).1
theorem rn_icmp_ne {x y : Int32} {off : Int} {tgt : Nat} (hd : decode M.2.1 pc = .ok (.if_icmp .ne off, 3)) (ht : (pc : Int) + off = (tgt : Int)) (kt : ¬ x = y → Rn l D ad tc L xs M d lo tgt lv (st) h r h') (kf : x = y → Rn l D ad tc L xs M d lo (pc + 3) lv (st) h r h') : Rn l D ad tc L xs M d lo pc lv (.int y :: .int x :: st) h r h' := by
  refine ⟨?_, fun p e R s m args below meth c H locs cells slots mc ms ls Q hF h1 h2 h3 h4 h5 h6 hl hP hS hQ => lv_icmp_ne hF.1 hF.2.1 hd ht (fun q => (kt q).2 p e R s m args below meth c H locs cells slots mc ms ls Q hF h1 h2 h3 h4 h5 h6 hl hP hS hQ) (fun q => (kf q).2 p e R s m args below meth c H locs cells slots mc ms ls Q hF h1 h2 h3 h4 h5 h6 hl hP hS hQ)⟩
  by_cases q : ¬ x = y
  · exact (kt q).1
  · exact (kf (by first | exact q | exact fun z => q z | exact Decidable.not_not.mp q)).1
theorem rn_if_lt {x : Int32} {off : Int} {tgt : Nat} (hd : decode M.2.1 pc = .ok (.ifCond .lt off, 3)) (ht : (pc : Int) + off = (tgt : Int)) (kt : x < 0 → Rn l D ad tc L xs M d lo tgt lv (st) h r h') (kf : ¬ x < 0 → Rn l D ad tc L xs M d lo (pc + 3) lv (st) h r h') : Rn l D ad tc L xs M d lo pc lv (.int x :: st) h r h' := by
  refine ⟨?_, fun p e R s m args below meth c H locs cells slots mc ms ls Q hF h1 h2 h3 h4 h5 h6 hl hP hS hQ => lv_if_lt hF.1 hF.2.1 hd ht (fun q => (kt q).2 p e R s m args below meth c H locs cells slots mc ms ls Q hF h1 h2 h3 h4 h5 h6 hl hP hS hQ) (fun q => (kf q).2 p e R s m args below meth c H locs cells slots mc ms ls Q hF h1 h2 h3 h4 h5 h6 hl hP hS hQ)⟩
  by_cases q : x < 0
  · exact (kt q).1
  · exact (kf (by first | exact q | exact fun z => q z | exact Decidable.not_not.mp q)).1
theorem rn_icmp_lt {x y : Int32} {off : Int} {tgt : Nat} (hd : decode M.2.1 pc = .ok (.if_icmp .lt off, 3)) (ht : (pc : Int) + off = (tgt : Int)) (kt : x < y → Rn l D ad tc L xs M d lo tgt lv (st) h r h') (kf : ¬ x < y → Rn l D ad tc L xs M d lo (pc + 3) lv (st) h r h') : Rn l D ad tc L xs M d lo pc lv (.int y :: .int x :: st) h r h' := by
  refine ⟨?_, fun p e R s m args below meth c H locs cells slots mc ms ls Q hF h1 h2 h3 h4 h5 h6 hl hP hS hQ => lv_icmp_lt hF.1 hF.2.1 hd ht (fun q => (kt q).2 p e R s m args below meth c H locs cells slots mc ms ls Q hF h1 h2 h3 h4 h5 h6 hl hP hS hQ) (fun q => (kf q).2 p e R s m args below meth c H locs cells slots mc ms ls Q hF h1 h2 h3 h4 h5 h6 hl hP hS hQ)⟩
  by_cases q : x < y
  · exact (kt q).1
  · exact (kf (by first | exact q | exact fun z => q z | exact Decidable.not_not.mp q)).1
theorem rn_if_ge {x : Int32} {off : Int} {tgt : Nat} (hd : decode M.2.1 pc = .ok (.ifCond .ge off, 3)) (ht : (pc : Int) + off = (tgt : Int)) (kt : 0 ≤ x → Rn l D ad tc L xs M d lo tgt lv (st) h r h') (kf : ¬ 0 ≤ x → Rn l D ad tc L xs M d lo (pc + 3) lv (st) h r h') : Rn l D ad tc L xs M d lo pc lv (.int x :: st) h r h' := by
  refine ⟨?_, fun p e R s m args below meth c H locs cells slots mc ms ls Q hF h1 h2 h3 h4 h5 h6 hl hP hS hQ => lv_if_ge hF.1 hF.2.1 hd ht (fun q => (kt q).2 p e R s m args below meth c H locs cells slots mc ms ls Q hF h1 h2 h3 h4 h5 h6 hl hP hS hQ) (fun q => (kf q).2 p e R s m args below meth c H locs cells slots mc ms ls Q hF h1 h2 h3 h4 h5 h6 hl hP hS hQ)⟩
  by_cases q : 0 ≤ x
  · exact (kt q).1
  · exact (kf (by first | exact q | exact fun z => q z | exact Decidable.not_not.mp q)).1
theorem rn_icmp_ge {x y : Int32} {off : Int} {tgt : Nat} (hd : decode M.2.1 pc = .ok (.if_icmp .ge off, 3)) (ht : (pc : Int) + off = (tgt : Int)) (kt : y ≤ x → Rn l D ad tc L xs M d lo tgt lv (st) h r h') (kf : ¬ y ≤ x → Rn l D ad tc L xs M d lo (pc + 3) lv (st) h r h') : Rn l D ad tc L xs M d lo pc lv (.int y :: .int x :: st) h r h' := by
  refine ⟨?_, fun p e R s m args below meth c H locs cells slots mc ms ls Q hF h1 h2 h3 h4 h5 h6 hl hP hS hQ => lv_icmp_ge hF.1 hF.2.1 hd ht (fun q => (kt q).2 p e R s m args below meth c H locs cells slots mc ms ls Q hF h1 h2 h3 h4 h5 h6 hl hP hS hQ) (fun q => (kf q).2 p e R s m args below meth c H locs cells slots mc ms ls Q hF h1 h2 h3 h4 h5 h6 hl hP hS hQ)⟩
  by_cases q : y ≤ x
  · exact (kt q).1
  · exact (kf (by first | exact q | exact fun z => q z | exact Decidable.not_not.mp q)).1
theorem rn_if_gt {x : Int32} {off : Int} {tgt : Nat} (hd : decode M.2.1 pc = .ok (.ifCond .gt off, 3)) (ht : (pc : Int) + off = (tgt : Int)) (kt : 0 < x → Rn l D ad tc L xs M d lo tgt lv (st) h r h') (kf : ¬ 0 < x → Rn l D ad tc L xs M d lo (pc + 3) lv (st) h r h') : Rn l D ad tc L xs M d lo pc lv (.int x :: st) h r h' := by
  refine ⟨?_, fun p e R s m args below meth c H locs cells slots mc ms ls Q hF h1 h2 h3 h4 h5 h6 hl hP hS hQ => lv_if_gt hF.1 hF.2.1 hd ht (fun q => (kt q).2 p e R s m args below meth c H locs cells slots mc ms ls Q hF h1 h2 h3 h4 h5 h6 hl hP hS hQ) (fun q => (kf q).2 p e R s m args below meth c H locs cells slots mc ms ls Q hF h1 h2 h3 h4 h5 h6 hl hP hS hQ)⟩
  by_cases q : 0 < x
  · exact (kt q).1
  · exact (kf (by first | exact q | exact fun z => q z | exact Decidable.not_not.mp q)).1
theorem rn_icmp_gt {x y : Int32} {off : Int} {tgt : Nat} (hd : decode M.2.1 pc = .ok (.if_icmp .gt off, 3)) (ht : (pc : Int) + off = (tgt : Int)) (kt : y < x → Rn l D ad tc L xs M d lo tgt lv (st) h r h') (kf : ¬ y < x → Rn l D ad tc L xs M d lo (pc + 3) lv (st) h r h') : Rn l D ad tc L xs M d lo pc lv (.int y :: .int x :: st) h r h' := by
  refine ⟨?_, fun p e R s m args below meth c H locs cells slots mc ms ls Q hF h1 h2 h3 h4 h5 h6 hl hP hS hQ => lv_icmp_gt hF.1 hF.2.1 hd ht (fun q => (kt q).2 p e R s m args below meth c H locs cells slots mc ms ls Q hF h1 h2 h3 h4 h5 h6 hl hP hS hQ) (fun q => (kf q).2 p e R s m args below meth c H locs cells slots mc ms ls Q hF h1 h2 h3 h4 h5 h6 hl hP hS hQ)⟩
  by_cases q : y < x
  · exact (kt q).1
  · exact (kf (by first | exact q | exact fun z => q z | exact Decidable.not_not.mp q)).1
theorem rn_if_le {x : Int32} {off : Int} {tgt : Nat} (hd : decode M.2.1 pc = .ok (.ifCond .le off, 3)) (ht : (pc : Int) + off = (tgt : Int)) (kt : x ≤ 0 → Rn l D ad tc L xs M d lo tgt lv (st) h r h') (kf : ¬ x ≤ 0 → Rn l D ad tc L xs M d lo (pc + 3) lv (st) h r h') : Rn l D ad tc L xs M d lo pc lv (.int x :: st) h r h' := by
  refine ⟨?_, fun p e R s m args below meth c H locs cells slots mc ms ls Q hF h1 h2 h3 h4 h5 h6 hl hP hS hQ => lv_if_le hF.1 hF.2.1 hd ht (fun q => (kt q).2 p e R s m args below meth c H locs cells slots mc ms ls Q hF h1 h2 h3 h4 h5 h6 hl hP hS hQ) (fun q => (kf q).2 p e R s m args below meth c H locs cells slots mc ms ls Q hF h1 h2 h3 h4 h5 h6 hl hP hS hQ)⟩
  by_cases q : x ≤ 0
  · exact (kt q).1
  · exact (kf (by first | exact q | exact fun z => q z | exact Decidable.not_not.mp q)).1
theorem rn_icmp_le {x y : Int32} {off : Int} {tgt : Nat} (hd : decode M.2.1 pc = .ok (.if_icmp .le off, 3)) (ht : (pc : Int) + off = (tgt : Int)) (kt : x ≤ y → Rn l D ad tc L xs M d lo tgt lv (st) h r h') (kf : ¬ x ≤ y → Rn l D ad tc L xs M d lo (pc + 3) lv (st) h r h') : Rn l D ad tc L xs M d lo pc lv (.int y :: .int x :: st) h r h' := by
  refine ⟨?_, fun p e R s m args below meth c H locs cells slots mc ms ls Q hF h1 h2 h3 h4 h5 h6 hl hP hS hQ => lv_icmp_le hF.1 hF.2.1 hd ht (fun q => (kt q).2 p e R s m args below meth c H locs cells slots mc ms ls Q hF h1 h2 h3 h4 h5 h6 hl hP hS hQ) (fun q => (kf q).2 p e R s m args below meth c H locs cells slots mc ms ls Q hF h1 h2 h3 h4 h5 h6 hl hP hS hQ)⟩
  by_cases q : x ≤ y
  · exact (kt q).1
  · exact (kf (by first | exact q | exact fun z => q z | exact Decidable.not_not.mp q)).1
theorem rn_istore_n {k0 : Fin 4} {x : Int32} {lv' : j_L} (hd : decode M.2.1 pc = .ok (.istore_n k0, 1)) (hn : (k0 : Nat) < M.2.2.1) (hl' : j_s1 (k0 : Nat) (.int x) lv = lv') (k : Rn l D ad tc L xs M d lo (pc + 1) lv' (st) h r h') : Rn l D ad tc L xs M d lo pc lv (.int x :: st) h r h' :=
  rn_loc (lv' := lv') (pc' := pc + 1) (st' := st) (fun p e R s m args below meth c H locs cells slots ls Q hF hl k => lv_istore_n (lv' := (lv'.map (fun q : Nat × Value => (q.1, j_v ad q.2)))) hF.1 hF.2.1 hd rfl hl hn (by rw [← hl']; exact j_s1_map (ad := ad) (v := .int x)) k) k
theorem rn_istore {i : Nat} {x : Int32} {lv' : j_L} (hd : decode M.2.1 pc = .ok (.istore i, 2)) (hn : i < M.2.2.1) (hl' : j_s1 i (.int x) lv = lv') (k : Rn l D ad tc L xs M d lo (pc + 2) lv' (st) h r h') : Rn l D ad tc L xs M d lo pc lv (.int x :: st) h r h' :=
  rn_loc (lv' := lv') (pc' := pc + 2) (st' := st) (fun p e R s m args below meth c H locs cells slots ls Q hF hl k => lv_istore (lv' := (lv'.map (fun q : Nat × Value => (q.1, j_v ad q.2)))) hF.1 hF.2.1 hd hl hn (by rw [← hl']; exact j_s1_map (ad := ad) (v := .int x)) k) k
theorem rn_fstore_n {k0 : Fin 4} {x : UInt32} {lv' : j_L} (hd : decode M.2.1 pc = .ok (.fstore_n k0, 1)) (hn : (k0 : Nat) < M.2.2.1) (hl' : j_s1 (k0 : Nat) (.float x) lv = lv') (k : Rn l D ad tc L xs M d lo (pc + 1) lv' (st) h r h') : Rn l D ad tc L xs M d lo pc lv (.float x :: st) h r h' :=
  rn_loc (lv' := lv') (pc' := pc + 1) (st' := st) (fun p e R s m args below meth c H locs cells slots ls Q hF hl k => lv_fstore_n (lv' := (lv'.map (fun q : Nat × Value => (q.1, j_v ad q.2)))) hF.1 hF.2.1 hd rfl hl hn (by rw [← hl']; exact j_s1_map (ad := ad) (v := .float x)) k) k
theorem rn_fstore {i : Nat} {x : UInt32} {lv' : j_L} (hd : decode M.2.1 pc = .ok (.fstore i, 2)) (hn : i < M.2.2.1) (hl' : j_s1 i (.float x) lv = lv') (k : Rn l D ad tc L xs M d lo (pc + 2) lv' (st) h r h') : Rn l D ad tc L xs M d lo pc lv (.float x :: st) h r h' :=
  rn_loc (lv' := lv') (pc' := pc + 2) (st' := st) (fun p e R s m args below meth c H locs cells slots ls Q hF hl k => lv_fstore (lv' := (lv'.map (fun q : Nat × Value => (q.1, j_v ad q.2)))) hF.1 hF.2.1 hd hl hn (by rw [← hl']; exact j_s1_map (ad := ad) (v := .float x)) k) k
theorem rn_astore_n {k0 : Fin 4} {x : Nat} {lv' : j_L} (hd : decode M.2.1 pc = .ok (.astore_n k0, 1)) (hn : (k0 : Nat) < M.2.2.1) (hl' : j_s1 (k0 : Nat) (.ref x) lv = lv') (k : Rn l D ad tc L xs M d lo (pc + 1) lv' (st) h r h') : Rn l D ad tc L xs M d lo pc lv (.ref x :: st) h r h' :=
  rn_loc (lv' := lv') (pc' := pc + 1) (st' := st) (fun p e R s m args below meth c H locs cells slots ls Q hF hl k => lv_astore_n (lv' := (lv'.map (fun q : Nat × Value => (q.1, j_v ad q.2)))) hF.1 hF.2.1 hd rfl hl hn (by rw [← hl']; exact j_s1_map (ad := ad) (v := .ref x)) k) k
theorem rn_astore {i : Nat} {x : Nat} {lv' : j_L} (hd : decode M.2.1 pc = .ok (.astore i, 2)) (hn : i < M.2.2.1) (hl' : j_s1 i (.ref x) lv = lv') (k : Rn l D ad tc L xs M d lo (pc + 2) lv' (st) h r h') : Rn l D ad tc L xs M d lo pc lv (.ref x :: st) h r h' :=
  rn_loc (lv' := lv') (pc' := pc + 2) (st' := st) (fun p e R s m args below meth c H locs cells slots ls Q hF hl k => lv_astore (lv' := (lv'.map (fun q : Nat × Value => (q.1, j_v ad q.2)))) hF.1 hF.2.1 hd hl hn (by rw [← hl']; exact j_s1_map (ad := ad) (v := .ref x)) k) k
theorem rn_lstore_n {k0 : Fin 4} {x : Int64} {lv' : j_L} (hd : decode M.2.1 pc = .ok (.lstore_n k0, 1)) (hn : (k0 : Nat) + 1 < M.2.2.1) (hl' : j_s2 (k0 : Nat) (.long x) lv = lv') (k : Rn l D ad tc L xs M d lo (pc + 1) lv' (st) h r h') : Rn l D ad tc L xs M d lo pc lv (.long x :: st) h r h' :=
  rn_loc (lv' := lv') (pc' := pc + 1) (st' := st) (fun p e R s m args below meth c H locs cells slots ls Q hF hl k => lv_lstore_n (lv' := (lv'.map (fun q : Nat × Value => (q.1, j_v ad q.2)))) hF.1 hF.2.1 hd rfl hl hn (by rw [← hl']; exact j_s2_map (ad := ad) (v := .long x)) k) k
theorem rn_lstore {i : Nat} {x : Int64} {lv' : j_L} (hd : decode M.2.1 pc = .ok (.lstore i, 2)) (hn : i + 1 < M.2.2.1) (hl' : j_s2 i (.long x) lv = lv') (k : Rn l D ad tc L xs M d lo (pc + 2) lv' (st) h r h') : Rn l D ad tc L xs M d lo pc lv (.long x :: st) h r h' :=
  rn_loc (lv' := lv') (pc' := pc + 2) (st' := st) (fun p e R s m args below meth c H locs cells slots ls Q hF hl k => lv_lstore (lv' := (lv'.map (fun q : Nat × Value => (q.1, j_v ad q.2)))) hF.1 hF.2.1 hd hl hn (by rw [← hl']; exact j_s2_map (ad := ad) (v := .long x)) k) k
theorem rn_dstore_n {k0 : Fin 4} {x : UInt64} {lv' : j_L} (hd : decode M.2.1 pc = .ok (.dstore_n k0, 1)) (hn : (k0 : Nat) + 1 < M.2.2.1) (hl' : j_s2 (k0 : Nat) (.double x) lv = lv') (k : Rn l D ad tc L xs M d lo (pc + 1) lv' (st) h r h') : Rn l D ad tc L xs M d lo pc lv (.double x :: st) h r h' :=
  rn_loc (lv' := lv') (pc' := pc + 1) (st' := st) (fun p e R s m args below meth c H locs cells slots ls Q hF hl k => lv_dstore_n (lv' := (lv'.map (fun q : Nat × Value => (q.1, j_v ad q.2)))) hF.1 hF.2.1 hd rfl hl hn (by rw [← hl']; exact j_s2_map (ad := ad) (v := .double x)) k) k
theorem rn_dstore {i : Nat} {x : UInt64} {lv' : j_L} (hd : decode M.2.1 pc = .ok (.dstore i, 2)) (hn : i + 1 < M.2.2.1) (hl' : j_s2 i (.double x) lv = lv') (k : Rn l D ad tc L xs M d lo (pc + 2) lv' (st) h r h') : Rn l D ad tc L xs M d lo pc lv (.double x :: st) h r h' :=
  rn_loc (lv' := lv') (pc' := pc + 2) (st' := st) (fun p e R s m args below meth c H locs cells slots ls Q hF hl k => lv_dstore (lv' := (lv'.map (fun q : Nat × Value => (q.1, j_v ad q.2)))) hF.1 hF.2.1 hd hl hn (by rw [← hl']; exact j_s2_map (ad := ad) (v := .double x)) k) k
theorem rn_iinc {i : Nat} {n : Int} {x v : Int32} {lv' : j_L} (hd : decode M.2.1 pc = .ok (.iinc i n, 3)) (hg : j_g lv i = some (.int x)) (hv : x + Int32.ofInt n = v) (hn : i < M.2.2.1) (hl' : j_s1 i (.int v) lv = lv') (k : Rn l D ad tc L xs M d lo (pc + 3) lv' (st) h r h') : Rn l D ad tc L xs M d lo pc lv (st) h r h' :=
  rn_loc (lv' := lv') (pc' := pc + 3) (st' := st) (fun p e R s m args below meth c H locs cells slots ls Q hF hl k => by
    obtain ⟨q, hq⟩ := List.getElem?_of_mem (j_g_mem hg)
    exact lv_iinc (lv' := (lv'.map (fun q : Nat × Value => (q.1, j_v ad q.2)))) hF.1 hF.2.1 hd hl (k := q) (by rw [List.getElem?_map, hq]; rfl) hv hn (by rw [← hl']; exact j_s1_map (ad := ad) (v := .int v)) k) k
end J2
end
