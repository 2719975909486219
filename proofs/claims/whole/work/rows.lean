section
-- ===== PART A: goes FIRST, ahead of the names: the tables' words, and 'selects' of the private methods out of them =====
/-- a private method of a class that the tables say can be made, by its rows of tables_1 -/
def lw_okq (q : MethodName × Nat) : Prop := (q.1.cls ≠ "java/lang/invoke/MethodHandle" ∧ q.1.cls ≠ "java/lang/invoke/VarHandle") ∧ Cond.instantiable q.1.cls q.2 ∈ tables_1 ∧ Cond.privateMethod q.1 ∈ tables_1 ∧ Cond.instanceMethod q.1 ∈ tables_1
theorem lw_p0 : lw_okq (⟨"CanyonBall$Canyon", "sumOfPlayers", "(I)I"⟩, 7) := ⟨⟨by decide +kernel, by decide +kernel⟩, List.mem_of_getElem? (i := 26) (by decide +kernel), List.mem_of_getElem? (i := 252) (by decide +kernel), List.mem_of_getElem? (i := 253) (by decide +kernel)⟩
theorem lw_p1 : lw_okq (⟨"CanyonBall", "countNumber", "(I)I"⟩, 6) := ⟨⟨by decide +kernel, by decide +kernel⟩, List.mem_of_getElem? (i := 18) (by decide +kernel), List.mem_of_getElem? (i := 269) (by decide +kernel), List.mem_of_getElem? (i := 270) (by decide +kernel)⟩
theorem lw_p2 : lw_okq (⟨"CanyonBall", "mixedWithPlayer", "(JI)J"⟩, 6) := ⟨⟨by decide +kernel, by decide +kernel⟩, List.mem_of_getElem? (i := 18) (by decide +kernel), List.mem_of_getElem? (i := 285) (by decide +kernel), List.mem_of_getElem? (i := 286) (by decide +kernel)⟩
theorem lw_p3 : lw_okq (⟨"CanyonBall$Canyon", "isEchoDue", "(II)Z"⟩, 7) := ⟨⟨by decide +kernel, by decide +kernel⟩, List.mem_of_getElem? (i := 26) (by decide +kernel), List.mem_of_getElem? (i := 306) (by decide +kernel), List.mem_of_getElem? (i := 307) (by decide +kernel)⟩
theorem lw_p4 : lw_okq (⟨"CanyonBall$Canyon", "meetsBallAlone", "(II)Z"⟩, 7) := ⟨⟨by decide +kernel, by decide +kernel⟩, List.mem_of_getElem? (i := 26) (by decide +kernel), List.mem_of_getElem? (i := 318) (by decide +kernel), List.mem_of_getElem? (i := 319) (by decide +kernel)⟩
theorem lw_p5 : lw_okq (⟨"CanyonBall$Canyon", "echoClashes", "(I)Z"⟩, 7) := ⟨⟨by decide +kernel, by decide +kernel⟩, List.mem_of_getElem? (i := 26) (by decide +kernel), List.mem_of_getElem? (i := 331) (by decide +kernel), List.mem_of_getElem? (i := 332) (by decide +kernel)⟩
theorem lw_p6 : lw_okq (⟨"CanyonBall", "mixedWithBall", "(JI)J"⟩, 6) := ⟨⟨by decide +kernel, by decide +kernel⟩, List.mem_of_getElem? (i := 18) (by decide +kernel), List.mem_of_getElem? (i := 335) (by decide +kernel), List.mem_of_getElem? (i := 336) (by decide +kernel)⟩
theorem lw_p7 : lw_okq (⟨"CanyonBall", "ballNumber", "(II)I"⟩, 6) := ⟨⟨by decide +kernel, by decide +kernel⟩, List.mem_of_getElem? (i := 18) (by decide +kernel), List.mem_of_getElem? (i := 339) (by decide +kernel), List.mem_of_getElem? (i := 340) (by decide +kernel)⟩
theorem lw_p8 : lw_okq (⟨"CanyonBall$Ball", "goStep", "(I)V"⟩, 3) := ⟨⟨by decide +kernel, by decide +kernel⟩, List.mem_of_getElem? (i := 32) (by decide +kernel), List.mem_of_getElem? (i := 353) (by decide +kernel), List.mem_of_getElem? (i := 354) (by decide +kernel)⟩
theorem lw_p9 : lw_okq (⟨"java/lang/Throwable", "fillInStackTrace", "(I)Ljava/lang/Throwable;"⟩, 6) := ⟨⟨by decide +kernel, by decide +kernel⟩, List.mem_of_getElem? (i := 417) (by decide +kernel), List.mem_of_getElem? (i := 415) (by decide +kernel), List.mem_of_getElem? (i := 416) (by decide +kernel)⟩
theorem lw_p10 : lw_okq (⟨"CanyonBall$History", "dropOldest", "()V"⟩, 2) := ⟨⟨by decide +kernel, by decide +kernel⟩, List.mem_of_getElem? (i := 144) (by decide +kernel), List.mem_of_getElem? (i := 470) (by decide +kernel), List.mem_of_getElem? (i := 471) (by decide +kernel)⟩
theorem lw_p11 : lw_okq (⟨"CanyonBall$Canyon", "addEcho", "(III)V"⟩, 7) := ⟨⟨by decide +kernel, by decide +kernel⟩, List.mem_of_getElem? (i := 26) (by decide +kernel), List.mem_of_getElem? (i := 491) (by decide +kernel), List.mem_of_getElem? (i := 492) (by decide +kernel)⟩
theorem lw_p12 : lw_okq (⟨"CanyonBall$Canyon", "goTurn", "()I"⟩, 7) := ⟨⟨by decide +kernel, by decide +kernel⟩, List.mem_of_getElem? (i := 26) (by decide +kernel), List.mem_of_getElem? (i := 569) (by decide +kernel), List.mem_of_getElem? (i := 570) (by decide +kernel)⟩
theorem lw_p13 : lw_okq (⟨"CanyonBall$Canyon", "isCatch", "(I)Z"⟩, 7) := ⟨⟨by decide +kernel, by decide +kernel⟩, List.mem_of_getElem? (i := 26) (by decide +kernel), List.mem_of_getElem? (i := 574) (by decide +kernel), List.mem_of_getElem? (i := 575) (by decide +kernel)⟩
theorem lw_p14 : lw_okq (⟨"CanyonBall$Canyon", "dropFirstEchoes", "(I)V"⟩, 7) := ⟨⟨by decide +kernel, by decide +kernel⟩, List.mem_of_getElem? (i := 26) (by decide +kernel), List.mem_of_getElem? (i := 583) (by decide +kernel), List.mem_of_getElem? (i := 584) (by decide +kernel)⟩
theorem lw_p15 : lw_okq (⟨"CanyonBall", "doOrder", "(I)Z"⟩, 6) := ⟨⟨by decide +kernel, by decide +kernel⟩, List.mem_of_getElem? (i := 18) (by decide +kernel), List.mem_of_getElem? (i := 620) (by decide +kernel), List.mem_of_getElem? (i := 621) (by decide +kernel)⟩
def lw_privs_1 : List (MethodName × Nat) := [(⟨"CanyonBall$Canyon", "sumOfPlayers", "(I)I"⟩, 7), (⟨"CanyonBall", "countNumber", "(I)I"⟩, 6), (⟨"CanyonBall", "mixedWithPlayer", "(JI)J"⟩, 6), (⟨"CanyonBall$Canyon", "isEchoDue", "(II)Z"⟩, 7), (⟨"CanyonBall$Canyon", "meetsBallAlone", "(II)Z"⟩, 7), (⟨"CanyonBall$Canyon", "echoClashes", "(I)Z"⟩, 7), (⟨"CanyonBall", "mixedWithBall", "(JI)J"⟩, 6), (⟨"CanyonBall", "ballNumber", "(II)I"⟩, 6), (⟨"CanyonBall$Ball", "goStep", "(I)V"⟩, 3), (⟨"java/lang/Throwable", "fillInStackTrace", "(I)Ljava/lang/Throwable;"⟩, 6), (⟨"CanyonBall$History", "dropOldest", "()V"⟩, 2), (⟨"CanyonBall$Canyon", "addEcho", "(III)V"⟩, 7), (⟨"CanyonBall$Canyon", "goTurn", "()I"⟩, 7), (⟨"CanyonBall$Canyon", "isCatch", "(I)Z"⟩, 7), (⟨"CanyonBall$Canyon", "dropFirstEchoes", "(I)V"⟩, 7), (⟨"CanyonBall", "doOrder", "(I)Z"⟩, 6)]
theorem lw_r1 : ∀ q ∈ lw_privs_1, lw_okq q := List.forall_mem_cons.mpr ⟨lw_p0, List.forall_mem_cons.mpr ⟨lw_p1, List.forall_mem_cons.mpr ⟨lw_p2, List.forall_mem_cons.mpr ⟨lw_p3, List.forall_mem_cons.mpr ⟨lw_p4, List.forall_mem_cons.mpr ⟨lw_p5, List.forall_mem_cons.mpr ⟨lw_p6, List.forall_mem_cons.mpr ⟨lw_p7, List.forall_mem_cons.mpr ⟨lw_p8, List.forall_mem_cons.mpr ⟨lw_p9, List.forall_mem_cons.mpr ⟨lw_p10, List.forall_mem_cons.mpr ⟨lw_p11, List.forall_mem_cons.mpr ⟨lw_p12, List.forall_mem_cons.mpr ⟨lw_p13, List.forall_mem_cons.mpr ⟨lw_p14, List.forall_mem_cons.mpr ⟨lw_p15, fun _ h => absurd h List.not_mem_nil⟩⟩⟩⟩⟩⟩⟩⟩⟩⟩⟩⟩⟩⟩⟩⟩
theorem lw_p16 : lw_okq (⟨"CanyonBallModel", "fails", "(I)I"⟩, 15) := ⟨⟨by decide +kernel, by decide +kernel⟩, List.mem_of_getElem? (i := 722) (by decide +kernel), List.mem_of_getElem? (i := 782) (by decide +kernel), List.mem_of_getElem? (i := 783) (by decide +kernel)⟩
theorem lw_p17 : lw_okq (⟨"CanyonBallModel", "save", "()V"⟩, 15) := ⟨⟨by decide +kernel, by decide +kernel⟩, List.mem_of_getElem? (i := 722) (by decide +kernel), List.mem_of_getElem? (i := 797) (by decide +kernel), List.mem_of_getElem? (i := 798) (by decide +kernel)⟩
theorem lw_p18 : lw_okq (⟨"CanyonBallModel", "doesCall", "(II)I"⟩, 15) := ⟨⟨by decide +kernel, by decide +kernel⟩, List.mem_of_getElem? (i := 722) (by decide +kernel), List.mem_of_getElem? (i := 808) (by decide +kernel), List.mem_of_getElem? (i := 809) (by decide +kernel)⟩
theorem lw_p19 : lw_okq (⟨"CanyonBallModel", "underWay", "(I)I"⟩, 15) := ⟨⟨by decide +kernel, by decide +kernel⟩, List.mem_of_getElem? (i := 722) (by decide +kernel), List.mem_of_getElem? (i := 812) (by decide +kernel), List.mem_of_getElem? (i := 813) (by decide +kernel)⟩
theorem lw_p20 : lw_okq (⟨"CanyonBallModel", "ofEcho", "(II)I"⟩, 15) := ⟨⟨by decide +kernel, by decide +kernel⟩, List.mem_of_getElem? (i := 722) (by decide +kernel), List.mem_of_getElem? (i := 816) (by decide +kernel), List.mem_of_getElem? (i := 817) (by decide +kernel)⟩
theorem lw_p21 : lw_okq (⟨"CanyonBallModel", "addEcho", "(III)V"⟩, 15) := ⟨⟨by decide +kernel, by decide +kernel⟩, List.mem_of_getElem? (i := 722) (by decide +kernel), List.mem_of_getElem? (i := 820) (by decide +kernel), List.mem_of_getElem? (i := 821) (by decide +kernel)⟩
theorem lw_p22 : lw_okq (⟨"CanyonBallModel", "ofPlayer", "(II)I"⟩, 15) := ⟨⟨by decide +kernel, by decide +kernel⟩, List.mem_of_getElem? (i := 722) (by decide +kernel), List.mem_of_getElem? (i := 824) (by decide +kernel), List.mem_of_getElem? (i := 825) (by decide +kernel)⟩
theorem lw_p23 : lw_okq (⟨"CanyonBallModel", "delay", "(II)I"⟩, 15) := ⟨⟨by decide +kernel, by decide +kernel⟩, List.mem_of_getElem? (i := 722) (by decide +kernel), List.mem_of_getElem? (i := 828) (by decide +kernel), List.mem_of_getElem? (i := 829) (by decide +kernel)⟩
theorem lw_p24 : lw_okq (⟨"CanyonBallModel", "doesWalk", "(II)I"⟩, 15) := ⟨⟨by decide +kernel, by decide +kernel⟩, List.mem_of_getElem? (i := 722) (by decide +kernel), List.mem_of_getElem? (i := 836) (by decide +kernel), List.mem_of_getElem? (i := 837) (by decide +kernel)⟩
theorem lw_p25 : lw_okq (⟨"CanyonBallModel", "hasRoom", "(I)Z"⟩, 15) := ⟨⟨by decide +kernel, by decide +kernel⟩, List.mem_of_getElem? (i := 722) (by decide +kernel), List.mem_of_getElem? (i := 848) (by decide +kernel), List.mem_of_getElem? (i := 849) (by decide +kernel)⟩
theorem lw_p26 : lw_okq (⟨"CanyonBallModel", "doesPass", "(I)I"⟩, 15) := ⟨⟨by decide +kernel, by decide +kernel⟩, List.mem_of_getElem? (i := 722) (by decide +kernel), List.mem_of_getElem? (i := 857) (by decide +kernel), List.mem_of_getElem? (i := 858) (by decide +kernel)⟩
theorem lw_p27 : lw_okq (⟨"CanyonBallModel", "turn", "()I"⟩, 15) := ⟨⟨by decide +kernel, by decide +kernel⟩, List.mem_of_getElem? (i := 722) (by decide +kernel), List.mem_of_getElem? (i := 861) (by decide +kernel), List.mem_of_getElem? (i := 862) (by decide +kernel)⟩
theorem lw_p28 : lw_okq (⟨"CanyonBallModel", "takeBall", "()V"⟩, 15) := ⟨⟨by decide +kernel, by decide +kernel⟩, List.mem_of_getElem? (i := 722) (by decide +kernel), List.mem_of_getElem? (i := 865) (by decide +kernel), List.mem_of_getElem? (i := 866) (by decide +kernel)⟩
theorem lw_p29 : lw_okq (⟨"CanyonBallModel", "moveBall", "(I)V"⟩, 15) := ⟨⟨by decide +kernel, by decide +kernel⟩, List.mem_of_getElem? (i := 722) (by decide +kernel), List.mem_of_getElem? (i := 869) (by decide +kernel), List.mem_of_getElem? (i := 870) (by decide +kernel)⟩
theorem lw_p30 : lw_okq (⟨"CanyonBallModel", "comingTo", "(II)I"⟩, 15) := ⟨⟨by decide +kernel, by decide +kernel⟩, List.mem_of_getElem? (i := 722) (by decide +kernel), List.mem_of_getElem? (i := 873) (by decide +kernel), List.mem_of_getElem? (i := 874) (by decide +kernel)⟩
theorem lw_p31 : lw_okq (⟨"CanyonBallModel", "comesBack", "(IZ)Z"⟩, 15) := ⟨⟨by decide +kernel, by decide +kernel⟩, List.mem_of_getElem? (i := 722) (by decide +kernel), List.mem_of_getElem? (i := 877) (by decide +kernel), List.mem_of_getElem? (i := 878) (by decide +kernel)⟩
def lw_privs_2 : List (MethodName × Nat) := [(⟨"CanyonBallModel", "fails", "(I)I"⟩, 15), (⟨"CanyonBallModel", "save", "()V"⟩, 15), (⟨"CanyonBallModel", "doesCall", "(II)I"⟩, 15), (⟨"CanyonBallModel", "underWay", "(I)I"⟩, 15), (⟨"CanyonBallModel", "ofEcho", "(II)I"⟩, 15), (⟨"CanyonBallModel", "addEcho", "(III)V"⟩, 15), (⟨"CanyonBallModel", "ofPlayer", "(II)I"⟩, 15), (⟨"CanyonBallModel", "delay", "(II)I"⟩, 15), (⟨"CanyonBallModel", "doesWalk", "(II)I"⟩, 15), (⟨"CanyonBallModel", "hasRoom", "(I)Z"⟩, 15), (⟨"CanyonBallModel", "doesPass", "(I)I"⟩, 15), (⟨"CanyonBallModel", "turn", "()I"⟩, 15), (⟨"CanyonBallModel", "takeBall", "()V"⟩, 15), (⟨"CanyonBallModel", "moveBall", "(I)V"⟩, 15), (⟨"CanyonBallModel", "comingTo", "(II)I"⟩, 15), (⟨"CanyonBallModel", "comesBack", "(IZ)Z"⟩, 15)]
theorem lw_r2 : ∀ q ∈ lw_privs_2, lw_okq q := List.forall_mem_cons.mpr ⟨lw_p16, List.forall_mem_cons.mpr ⟨lw_p17, List.forall_mem_cons.mpr ⟨lw_p18, List.forall_mem_cons.mpr ⟨lw_p19, List.forall_mem_cons.mpr ⟨lw_p20, List.forall_mem_cons.mpr ⟨lw_p21, List.forall_mem_cons.mpr ⟨lw_p22, List.forall_mem_cons.mpr ⟨lw_p23, List.forall_mem_cons.mpr ⟨lw_p24, List.forall_mem_cons.mpr ⟨lw_p25, List.forall_mem_cons.mpr ⟨lw_p26, List.forall_mem_cons.mpr ⟨lw_p27, List.forall_mem_cons.mpr ⟨lw_p28, List.forall_mem_cons.mpr ⟨lw_p29, List.forall_mem_cons.mpr ⟨lw_p30, List.forall_mem_cons.mpr ⟨lw_p31, fun _ h => absurd h List.not_mem_nil⟩⟩⟩⟩⟩⟩⟩⟩⟩⟩⟩⟩⟩⟩⟩⟩
theorem lw_p32 : lw_okq (⟨"CanyonBallModel", "sendOn", "(I)V"⟩, 15) := ⟨⟨by decide +kernel, by decide +kernel⟩, List.mem_of_getElem? (i := 722) (by decide +kernel), List.mem_of_getElem? (i := 881) (by decide +kernel), List.mem_of_getElem? (i := 882) (by decide +kernel)⟩
theorem lw_p33 : lw_okq (⟨"CanyonBallModel", "dropDue", "()V"⟩, 15) := ⟨⟨by decide +kernel, by decide +kernel⟩, List.mem_of_getElem? (i := 722) (by decide +kernel), List.mem_of_getElem? (i := 885) (by decide +kernel), List.mem_of_getElem? (i := 886) (by decide +kernel)⟩
theorem lw_p34 : lw_okq (⟨"CanyonBallModel", "findError", "()I"⟩, 15) := ⟨⟨by decide +kernel, by decide +kernel⟩, List.mem_of_getElem? (i := 722) (by decide +kernel), List.mem_of_getElem? (i := 901) (by decide +kernel), List.mem_of_getElem? (i := 902) (by decide +kernel)⟩
theorem lw_p35 : lw_okq (⟨"CanyonBallModel", "readsOrder", "()Z"⟩, 15) := ⟨⟨by decide +kernel, by decide +kernel⟩, List.mem_of_getElem? (i := 722) (by decide +kernel), List.mem_of_getElem? (i := 905) (by decide +kernel), List.mem_of_getElem? (i := 906) (by decide +kernel)⟩
theorem lw_p36 : lw_okq (⟨"CanyonBallModel", "next", "()I"⟩, 15) := ⟨⟨by decide +kernel, by decide +kernel⟩, List.mem_of_getElem? (i := 722) (by decide +kernel), List.mem_of_getElem? (i := 909) (by decide +kernel), List.mem_of_getElem? (i := 910) (by decide +kernel)⟩
theorem lw_p37 : lw_okq (⟨"CanyonBallModel", "readsCall", "()Z"⟩, 15) := ⟨⟨by decide +kernel, by decide +kernel⟩, List.mem_of_getElem? (i := 722) (by decide +kernel), List.mem_of_getElem? (i := 913) (by decide +kernel), List.mem_of_getElem? (i := 914) (by decide +kernel)⟩
theorem lw_p38 : lw_okq (⟨"CanyonBallModel", "digit", "(II)I"⟩, 15) := ⟨⟨by decide +kernel, by decide +kernel⟩, List.mem_of_getElem? (i := 722) (by decide +kernel), List.mem_of_getElem? (i := 917) (by decide +kernel), List.mem_of_getElem? (i := 918) (by decide +kernel)⟩
theorem lw_p39 : lw_okq (⟨"CanyonBallModel", "takes", "(I)Z"⟩, 15) := ⟨⟨by decide +kernel, by decide +kernel⟩, List.mem_of_getElem? (i := 722) (by decide +kernel), List.mem_of_getElem? (i := 921) (by decide +kernel), List.mem_of_getElem? (i := 922) (by decide +kernel)⟩
theorem lw_p40 : lw_okq (⟨"CanyonBallModel", "readsWalk", "()Z"⟩, 15) := ⟨⟨by decide +kernel, by decide +kernel⟩, List.mem_of_getElem? (i := 722) (by decide +kernel), List.mem_of_getElem? (i := 925) (by decide +kernel), List.mem_of_getElem? (i := 926) (by decide +kernel)⟩
theorem lw_p41 : lw_okq (⟨"CanyonBallModel", "readsTurns", "()Z"⟩, 15) := ⟨⟨by decide +kernel, by decide +kernel⟩, List.mem_of_getElem? (i := 722) (by decide +kernel), List.mem_of_getElem? (i := 929) (by decide +kernel), List.mem_of_getElem? (i := 930) (by decide +kernel)⟩
theorem lw_p42 : lw_okq (⟨"CanyonBallModel", "doesOrder", "()Z"⟩, 15) := ⟨⟨by decide +kernel, by decide +kernel⟩, List.mem_of_getElem? (i := 722) (by decide +kernel), List.mem_of_getElem? (i := 937) (by decide +kernel), List.mem_of_getElem? (i := 938) (by decide +kernel)⟩
theorem lw_p43 : lw_okq (⟨"CanyonBallModel", "tellsPlayer", "(II)I"⟩, 15) := ⟨⟨by decide +kernel, by decide +kernel⟩, List.mem_of_getElem? (i := 722) (by decide +kernel), List.mem_of_getElem? (i := 945) (by decide +kernel), List.mem_of_getElem? (i := 946) (by decide +kernel)⟩
theorem lw_p44 : lw_okq (⟨"CanyonBallModel", "tellsEcho", "(II)I"⟩, 15) := ⟨⟨by decide +kernel, by decide +kernel⟩, List.mem_of_getElem? (i := 722) (by decide +kernel), List.mem_of_getElem? (i := 953) (by decide +kernel), List.mem_of_getElem? (i := 954) (by decide +kernel)⟩
theorem lw_p45 : lw_okq (⟨"CanyonBallModel", "echoAt", "(I)I"⟩, 15) := ⟨⟨by decide +kernel, by decide +kernel⟩, List.mem_of_getElem? (i := 722) (by decide +kernel), List.mem_of_getElem? (i := 957) (by decide +kernel), List.mem_of_getElem? (i := 958) (by decide +kernel)⟩
theorem lw_p46 : lw_okq (⟨"CanyonBallModel", "tellsCount", "(I)I"⟩, 15) := ⟨⟨by decide +kernel, by decide +kernel⟩, List.mem_of_getElem? (i := 722) (by decide +kernel), List.mem_of_getElem? (i := 965) (by decide +kernel), List.mem_of_getElem? (i := 966) (by decide +kernel)⟩
theorem lw_p47 : lw_okq (⟨"CanyonBallModel", "sum", "(I)I"⟩, 15) := ⟨⟨by decide +kernel, by decide +kernel⟩, List.mem_of_getElem? (i := 722) (by decide +kernel), List.mem_of_getElem? (i := 969) (by decide +kernel), List.mem_of_getElem? (i := 970) (by decide +kernel)⟩
def lw_privs_3 : List (MethodName × Nat) := [(⟨"CanyonBallModel", "sendOn", "(I)V"⟩, 15), (⟨"CanyonBallModel", "dropDue", "()V"⟩, 15), (⟨"CanyonBallModel", "findError", "()I"⟩, 15), (⟨"CanyonBallModel", "readsOrder", "()Z"⟩, 15), (⟨"CanyonBallModel", "next", "()I"⟩, 15), (⟨"CanyonBallModel", "readsCall", "()Z"⟩, 15), (⟨"CanyonBallModel", "digit", "(II)I"⟩, 15), (⟨"CanyonBallModel", "takes", "(I)Z"⟩, 15), (⟨"CanyonBallModel", "readsWalk", "()Z"⟩, 15), (⟨"CanyonBallModel", "readsTurns", "()Z"⟩, 15), (⟨"CanyonBallModel", "doesOrder", "()Z"⟩, 15), (⟨"CanyonBallModel", "tellsPlayer", "(II)I"⟩, 15), (⟨"CanyonBallModel", "tellsEcho", "(II)I"⟩, 15), (⟨"CanyonBallModel", "echoAt", "(I)I"⟩, 15), (⟨"CanyonBallModel", "tellsCount", "(I)I"⟩, 15), (⟨"CanyonBallModel", "sum", "(I)I"⟩, 15)]
theorem lw_r3 : ∀ q ∈ lw_privs_3, lw_okq q := List.forall_mem_cons.mpr ⟨lw_p32, List.forall_mem_cons.mpr ⟨lw_p33, List.forall_mem_cons.mpr ⟨lw_p34, List.forall_mem_cons.mpr ⟨lw_p35, List.forall_mem_cons.mpr ⟨lw_p36, List.forall_mem_cons.mpr ⟨lw_p37, List.forall_mem_cons.mpr ⟨lw_p38, List.forall_mem_cons.mpr ⟨lw_p39, List.forall_mem_cons.mpr ⟨lw_p40, List.forall_mem_cons.mpr ⟨lw_p41, List.forall_mem_cons.mpr ⟨lw_p42, List.forall_mem_cons.mpr ⟨lw_p43, List.forall_mem_cons.mpr ⟨lw_p44, List.forall_mem_cons.mpr ⟨lw_p45, List.forall_mem_cons.mpr ⟨lw_p46, List.forall_mem_cons.mpr ⟨lw_p47, fun _ h => absurd h List.not_mem_nil⟩⟩⟩⟩⟩⟩⟩⟩⟩⟩⟩⟩⟩⟩⟩⟩
theorem lw_p48 : lw_okq (⟨"CanyonBallModel", "tellsBall", "(II)I"⟩, 15) := ⟨⟨by decide +kernel, by decide +kernel⟩, List.mem_of_getElem? (i := 722) (by decide +kernel), List.mem_of_getElem? (i := 981) (by decide +kernel), List.mem_of_getElem? (i := 982) (by decide +kernel)⟩
theorem lw_p49 : lw_okq (⟨"CanyonBallModel", "unfolded", "(I)I"⟩, 15) := ⟨⟨by decide +kernel, by decide +kernel⟩, List.mem_of_getElem? (i := 722) (by decide +kernel), List.mem_of_getElem? (i := 985) (by decide +kernel), List.mem_of_getElem? (i := 986) (by decide +kernel)⟩
theorem lw_p50 : lw_okq (⟨"CanyonBallModel", "delayOf", "(II)I"⟩, 15) := ⟨⟨by decide +kernel, by decide +kernel⟩, List.mem_of_getElem? (i := 722) (by decide +kernel), List.mem_of_getElem? (i := 993) (by decide +kernel), List.mem_of_getElem? (i := 994) (by decide +kernel)⟩
theorem lw_p51 : lw_okq (⟨"CanyonBallModel", "isClash", "(III)Z"⟩, 15) := ⟨⟨by decide +kernel, by decide +kernel⟩, List.mem_of_getElem? (i := 722) (by decide +kernel), List.mem_of_getElem? (i := 1001) (by decide +kernel), List.mem_of_getElem? (i := 1002) (by decide +kernel)⟩
theorem lw_p52 : lw_okq (⟨"CanyonBallModel", "bestWait", "(I)I"⟩, 15) := ⟨⟨by decide +kernel, by decide +kernel⟩, List.mem_of_getElem? (i := 722) (by decide +kernel), List.mem_of_getElem? (i := 1009) (by decide +kernel), List.mem_of_getElem? (i := 1010) (by decide +kernel)⟩
theorem lw_p53 : lw_okq (⟨"CanyonBallModel", "meetsBall", "(III)Z"⟩, 15) := ⟨⟨by decide +kernel, by decide +kernel⟩, List.mem_of_getElem? (i := 722) (by decide +kernel), List.mem_of_getElem? (i := 1013) (by decide +kernel), List.mem_of_getElem? (i := 1014) (by decide +kernel)⟩
theorem lw_p54 : lw_okq (⟨"CanyonBallModel", "tellsQuiet", "()I"⟩, 15) := ⟨⟨by decide +kernel, by decide +kernel⟩, List.mem_of_getElem? (i := 722) (by decide +kernel), List.mem_of_getElem? (i := 1021) (by decide +kernel), List.mem_of_getElem? (i := 1022) (by decide +kernel)⟩
theorem lw_p55 : lw_okq (⟨"CanyonBallModel", "tellsBest", "()I"⟩, 15) := ⟨⟨by decide +kernel, by decide +kernel⟩, List.mem_of_getElem? (i := 722) (by decide +kernel), List.mem_of_getElem? (i := 1029) (by decide +kernel), List.mem_of_getElem? (i := 1030) (by decide +kernel)⟩
theorem lw_p56 : lw_okq (⟨"CanyonBallModel", "share", "()D"⟩, 15) := ⟨⟨by decide +kernel, by decide +kernel⟩, List.mem_of_getElem? (i := 722) (by decide +kernel), List.mem_of_getElem? (i := 1037) (by decide +kernel), List.mem_of_getElem? (i := 1038) (by decide +kernel)⟩
theorem lw_p57 : lw_okq (⟨"CanyonBallModel", "mix", "(J)V"⟩, 15) := ⟨⟨by decide +kernel, by decide +kernel⟩, List.mem_of_getElem? (i := 722) (by decide +kernel), List.mem_of_getElem? (i := 1046) (by decide +kernel), List.mem_of_getElem? (i := 1047) (by decide +kernel)⟩
theorem lw_p58 : lw_okq (⟨"CanyonBallModel", "mixPlayer", "(I)V"⟩, 15) := ⟨⟨by decide +kernel, by decide +kernel⟩, List.mem_of_getElem? (i := 722) (by decide +kernel), List.mem_of_getElem? (i := 1051) (by decide +kernel), List.mem_of_getElem? (i := 1052) (by decide +kernel)⟩
def lw_privs_4 : List (MethodName × Nat) := [(⟨"CanyonBallModel", "tellsBall", "(II)I"⟩, 15), (⟨"CanyonBallModel", "unfolded", "(I)I"⟩, 15), (⟨"CanyonBallModel", "delayOf", "(II)I"⟩, 15), (⟨"CanyonBallModel", "isClash", "(III)Z"⟩, 15), (⟨"CanyonBallModel", "bestWait", "(I)I"⟩, 15), (⟨"CanyonBallModel", "meetsBall", "(III)Z"⟩, 15), (⟨"CanyonBallModel", "tellsQuiet", "()I"⟩, 15), (⟨"CanyonBallModel", "tellsBest", "()I"⟩, 15), (⟨"CanyonBallModel", "share", "()D"⟩, 15), (⟨"CanyonBallModel", "mix", "(J)V"⟩, 15), (⟨"CanyonBallModel", "mixPlayer", "(I)V"⟩, 15)]
theorem lw_r4 : ∀ q ∈ lw_privs_4, lw_okq q := List.forall_mem_cons.mpr ⟨lw_p48, List.forall_mem_cons.mpr ⟨lw_p49, List.forall_mem_cons.mpr ⟨lw_p50, List.forall_mem_cons.mpr ⟨lw_p51, List.forall_mem_cons.mpr ⟨lw_p52, List.forall_mem_cons.mpr ⟨lw_p53, List.forall_mem_cons.mpr ⟨lw_p54, List.forall_mem_cons.mpr ⟨lw_p55, List.forall_mem_cons.mpr ⟨lw_p56, List.forall_mem_cons.mpr ⟨lw_p57, List.forall_mem_cons.mpr ⟨lw_p58, fun _ h => absurd h List.not_mem_nil⟩⟩⟩⟩⟩⟩⟩⟩⟩⟩⟩
def lw_privs : List (MethodName × Nat) := lw_privs_1 ++ (lw_privs_2 ++ (lw_privs_3 ++ (lw_privs_4)))
def lw_tbl : List Cond := k2_sels lw_privs ++ tables_1
theorem lw_privs_ok : ∀ q ∈ lw_privs, lw_okq q := by
  show ∀ q ∈ lw_privs_1 ++ (lw_privs_2 ++ (lw_privs_3 ++ (lw_privs_4))), lw_okq q
  exact List.forall_mem_append.mpr ⟨lw_r1, List.forall_mem_append.mpr ⟨lw_r2, List.forall_mem_append.mpr ⟨lw_r3, lw_r4⟩⟩⟩
/-- the streams that the claim lets the run draw from -/
abbrev lw_cs : List Choice := [Jvm.Choice.named "NaN.bits"]
theorem lw_bits : nanBits ∈ lw_cs := by first | decide | exact List.mem_cons_self | simp [lw_cs, nanBits]
end
section
/-! ===== BEGIN words of one list among another's, by their places ===== -/
theorem goodIn_r {big : List Cond} (ws : List Cond) (ps : List Nat) (hp : ws = ps.filterMap (fun i => big[i]?)) (h : ws.all goodWord = true) : GoodIn big ws := by
  intro w hw
  have h1 := List.all_eq_true.mp h w hw
  rw [hp] at hw
  obtain ⟨i, -, hi⟩ := List.mem_filterMap.mp hw
  have hm : w ∈ big := by first | exact List.mem_of_getElem? hi | exact List.getElem?_mem hi
  exact ⟨hm, good_of_word h1⟩
theorem goodIn_app {big a b : List Cond} (ha : GoodIn big a) (hb : GoodIn big b) : GoodIn big (a ++ b) := fun w h => (List.mem_append.mp h).elim (ha w) (hb w)
theorem goodIn_ca {big a b : List Cond} {c : Cond} (ha : GoodIn big (c :: a)) (hb : GoodIn big b) : GoodIn big (c :: (a ++ b)) := fun w h => (List.mem_cons.mp h).elim (fun e => ha w (List.mem_cons.mpr (Or.inl e))) (fun h => (List.mem_append.mp h).elim (fun h => ha w (List.mem_cons.mpr (Or.inr h))) (hb w))
theorem goodIn_sub {big ws : List Cond} (hm : ∀ w ∈ ws, w ∈ big) (h : ws.all goodWord = true) : GoodIn big ws := fun w hw => ⟨hm w hw, good_of_word (List.all_eq_true.mp h w hw)⟩
/-! ===== END ===== -/

/-! ===== BEGIN exceptions that leave a method, and their catching by the caller (launches without stack traces) ===== -/
section VXA
/-! The laws vx_back, vx_callV, vx_callS, vx_callSW, vx_throw0, vx_throwS follow proofs of the library, with one case more: JvmDerived/Free/Laws.lean (Back.of_free), Shelf42/LK1.lean (callV, callS), Shelf/KitTraced.lean (throwNew0V, throwNewS). -/
/-- where a method has thrown q: the class by its name, the cell, what was written, the world -/
def vx_T (XC : String → State → State → Prop) (st : State) (q : Addr) (t : State) (mc ms : Nat) (free : Addr → Prop) : Prop :=
  ∃ (E : String) (ce : Cell) (L : List Loc), XC E st t ∧ t.heap[q]? = some ce ∧ ce.vm = .none ∧ st.vm.findClass E = some ce.cls ∧ st.WarmedH t.vm ∧ st.sameButNew ({ t with vm := st.vm } : State) L mc ms ∧ ∀ z ∈ L, free z.base
def vx_Q (Qc : Array Value → State → Outcome → State → Prop) (XC : String → State → State → Prop) (mc ms : Nat) (free : Addr → Prop) : Array Value → State → Outcome → State → Prop := fun a st o t =>
  (Qc a st o t ∧ ∃ L, FrameEnd st o t L mc ms ∧ ∀ q ∈ L, free q.base) ∨ ∃ q, o = .threw q ∧ vx_T XC st q t mc ms free
/-- a callee that returns or throws -/
def vx_Met (l : Launch) (y : MethodName) (ws : List Cond) (rm : Room) (Pc : Array Value → State → Prop) (Qc : Array Value → State → Outcome → State → Prop) (XC : String → State → State → Prop) (mc ms : Nat) (free : Addr → Prop) : Prop :=
  MetFree l y (headSpec ws rm) Pc (fun _ _ _ _ _ => True) (vx_Q Qc XC mc ms free)
def vx_Post (XC : String → State → State → Prop) (mc ms : Nat) (free : Addr → Prop) : Pt → Array Value → Addr → Pt → Prop := fun A a q B =>
  ∃ (g : JFrame) (mk : MethodId) (t : State) (L : List Loc) (E : String) (ce : Cell), B.U.heap = t.heap ∧ B.U.vm = t.vm ∧ XC E (A.U.calling g mk a) t ∧ t.heap[q]? = some ce ∧ ce.vm = .none ∧ A.U.vm.findClass E = some ce.cls ∧ B.locs = A.locs ++ L ∧ (∀ z ∈ L, free z.base) ∧ B.cells = A.cells + mc ∧ B.slots = A.slots + ms
def vx_Back (l : Launch) (R : Room) (p : Program) (e : Env) (below : List Frame) (s : State) (sargs : Array Value) (y : MethodName) (len W9 : Nat)
    (Pre : Pt → Array Value → Prop) (Post : Pt → Array Value → Option Value → Pt → Prop) (PostX : Pt → Array Value → Addr → Pt → Prop) : Prop :=
  ∀ (m : MethodId) (meth : Method) (c : Code) (A : Pt) (g : JFrame) (ig : Instr) (mk : MethodId) (a : Array Value),
    Stand p l e R s m sargs below meth c A.U A.locs A.cells A.slots → g.method = m → g.locals.size = c.maxLocals → decode c.code g.pc = .ok (ig, len) →
    2 * g.monitorRoom + (g.stack.map fun v => v.category).sum ≤ W9 → A.U.methodNamed? y = some mk → Pre A a →
    (∃ (v : Option Value) (B : Pt), Stand p l e R s m sargs below meth c B.U B.locs B.cells B.slots ∧ Post A a v B ∧
      Steps p.tables e below (doInvoke e (A.U.setTop g) [] mk a).1 (B.U.setTop { g with pc := g.pc + len, stack := v.toList ++ g.stack })) ∨
    (∃ (q : Addr) (B : Pt), Stand p l e R s m sargs below meth c B.U B.locs B.cells B.slots ∧ PostX A a q B ∧
      Steps p.tables e below (doInvoke e (A.U.setTop g) [] mk a).1 ((B.U.setTop g).pushFrame (.throwing q)))
section Payer
variable {l : Launch} {R : Room} {p : Program} {e : Env} {below : List Frame} {s : State} {sargs : Array Value} {y : MethodName} {len W9 : Nat}
theorem vx_back {ws : List Cond} {rm : Room} {Pc : Array Value → State → Prop} {Qc : Array Value → State → Outcome → State → Prop} {XC : String → State → State → Prop} {mc ms : Nat} {free : Addr → Prop} {bytes : ByteArray} {maxL : Nat} {ret : Option FieldType}
    (hM : vx_Met l y ws rm Pc Qc XC mc ms free) (hblind : FrameBlind Pc) (hrc : rm.cells = mc) (hrs : rm.slots = ms)
    (hframes : rm.frames + 1 ≤ R.frames) (hlocals : W9 + (maxL + 11) + rm.locals ≤ R.locals)
    (hws : ∀ w ∈ ws, ∀ a' U, s.WarmedH U.vm → w.before a' U = true) (hcode : Cond.code y bytes maxL ret ∈ ws) (hinit : ∀ a' U, s.WarmedH U.vm → (Cond.initialized y.cls).before a' U = true) :
    vx_Back l R p e below s sargs y len W9 (PreOf R mc ms Pc) (PostOf Qc mc ms free) (vx_Post XC mc ms free) := by
  intro m meth c A g ig mk a X hg hsize hdg hW hn hp
  have h1 : (headSpec ws rm).pre.before a A.U = true := atoms_intro fun w hw => hws w hw _ _ X.warmed
  have h2 : (Cond.code y bytes maxL ret).before a A.U = true := hws _ hcode _ _ X.warmed
  have h3 : (Cond.initialized y.cls).before a A.U = true := hinit _ _ X.warmed
  have h4 : A.cells + (headSpec ws rm).room.cells ≤ R.cells := by rw [show (headSpec ws rm).room.cells = mc from hrc]; exact hp.1
  have h5 : A.slots + (headSpec ws rm).room.slots ≤ R.slots := by rw [show (headSpec ws rm).room.slots = ms from hrs]; exact hp.2.1
  have hPc : Pc a (A.U.calling g mk a) := hblind _ _ _ _ hp.2.2
  obtain ⟨U, Ls, c0, s0⟩ := A
  dsimp only [Pt.U, Pt.locs, Pt.cells, Pt.slots] at h1 h2 h3 h4 h5 X hn hPc ⊢
  obtain ⟨methY, cY, hmY, hcY, -, hlY, -, -, -, -⟩ := Cond.code_spec hn h2
  obtain ⟨kY, hkY, -⟩ := className_of_methodNamed hn
  have hinitY : kY.init = .initialized := Cond.initialized_spec (findClass_of_methodNamed hn) hkY h3
  have h : At U g.method c below := by rw [hg]; exact X.here
  have hlocals9 : W9 + (maxL + 11) + (headSpec ws rm).room.locals ≤ R.locals := hlocals
  have happ : (headSpec ws rm).appliesLoose y e.platform (U.calling g mk a) = true :=
    Spec.appliesLoose_calling (g := g) h hdg hn hkY hinitY
      (X.room_calling (g := g) (R' := (headSpec ws rm).room) hsize hmY hcY hframes (by rw [hlY]; omega) h4 h5) h1
  obtain ⟨mid, hmid⟩ := h.above
  have hfr : (U.setTop g).frames = (.java g :: mid) ++ below := by rw [State.frames_setTop' g h.top, hmid]; rfl
  obtain ⟨o, s₂, hsteps, -, hend, hq⟩ := Steps.callFree hM p X.admits X.cas X.clock (acts := []) hfr happ hPc trivial
  have hq' : vx_Q Qc XC mc ms free a (U.calling g mk a) o s₂ := hq
  rw [State.frames_setTop' g h.top] at hend
  obtain ⟨g₀, hg0⟩ := Option.isSome_iff_exists.mp h.top
  obtain ⟨r, hr⟩ := State.topJava?_eq_some.mp hg0
  have hr' : (({ U with heap := s₂.heap, slotsUsed := s₂.slotsUsed } : State).setVm s₂.vm).frames = .java g₀ :: r := hr
  rcases hq' with ⟨hqc, L, hfe, hL⟩ | ⟨q, rfl, E, ce, L, hx, hce, hcv, hcl, hW₂, hsm, hL⟩
  · obtain ⟨⟨v, rfl⟩, hW₂, e2, q2, q3, q4, q5, q6⟩ := id hfe
    have e3 : s₂ = ({ (U.calling g mk a).setFrames s₂.frames with heap := s₂.heap, slotsUsed := s₂.slotsUsed } : State).setVm s₂.vm := by
      have : s₂ = ({ s₂ with vm := (U.calling g mk a).vm } : State).setVm s₂.vm := rfl
      rw [e2] at this
      exact this
    obtain ⟨c₂, i₂, len₂, hc₂, hd₂, hf₂⟩ := hend
    have hW' : U.WarmedH s₂.vm := hW₂
    have hcc : c₂ = c := by
      have h1 : s₂.code? g.method = U.code? g.method := by
        rw [State.code?_eq, State.code?_eq, hW'.alike.method?]
      exact Option.some.inj (hc₂.symm.trans (h1.trans h.code))
    subst hcc
    have hlen : len₂ = len := by rw [hdg] at hd₂; cases hd₂; rfl
    subst hlen
    have hs₂ : s₂ = (({ U with heap := s₂.heap, slotsUsed := s₂.slotsUsed } : State).setVm s₂.vm).setTop { g with pc := g.pc + len₂, stack := v.toList ++ g.stack } := by
      refine e3.trans ?_
      rw [hf₂, State.calling_eq h.top, State.setFrames_setFrames, State.setTop_of_frames _ hr', hr]
      rfl
    have hsame : U.sameButNew ({ U with heap := s₂.heap, slotsUsed := s₂.slotsUsed } : State) L mc ms := by
      refine ⟨?_, q2, q3, q4, q5, q6⟩
      obtain ⟨t, ht, -⟩ := State.frames_cons hr
      show ({ U with heap := s₂.heap, slotsUsed := s₂.slotsUsed } : State) = { U.setFrames U.frames with heap := s₂.heap, slotsUsed := s₂.slotsUsed }
      rw [State.setFrames_self ht]
    subst hg
    refine Or.inl ⟨v, ⟨(({ U with heap := s₂.heap, slotsUsed := s₂.slotsUsed } : State).setVm s₂.vm), Ls ++ L, c0 + mc, s0 + ms⟩,
      ⟨X.admits, X.cas, X.clock, X.frames, X.room, X.hears, X.method, X.code, (X.here.setHeapUsed s₂.heap s₂.slotsUsed).setVm hW'.alike, X.tail, State.WarmedH.trans X.warmed hW', X.limits, X.bytes, X.same.trans (hsame.setVm s.vm)⟩,
      ⟨g, mk, s₂, L, rfl, rfl, hqc, rfl, hL, rfl, rfl⟩, ?_⟩
    show Steps p.tables e below _ ((({ U with heap := s₂.heap, slotsUsed := s₂.slotsUsed } : State).setVm s₂.vm).setTop { g with pc := g.pc + len₂, stack := v.toList ++ g.stack })
    rw [← hs₂]
    exact hsteps
  · obtain ⟨e2, q2, q3, q4, q5, q6⟩ := id hsm
    have e3 : s₂ = ({ (U.calling g mk a).setFrames s₂.frames with heap := s₂.heap, slotsUsed := s₂.slotsUsed } : State).setVm s₂.vm := by
      have : s₂ = ({ s₂ with vm := (U.calling g mk a).vm } : State).setVm s₂.vm := rfl
      rw [e2] at this
      exact this
    have hf₂ : s₂.frames = .throwing q :: .java g :: U.frames.tail := hend
    have hW' : U.WarmedH s₂.vm := hW₂
    have hs₂ : s₂ = ((({ U with heap := s₂.heap, slotsUsed := s₂.slotsUsed } : State).setVm s₂.vm).setTop g).pushFrame (.throwing q) := by
      refine e3.trans ?_
      rw [hf₂, State.calling_eq h.top, State.setFrames_setFrames, State.pushFrame, State.frames_setTop _ hr', State.setTop_of_frames _ hr', State.setFrames_setFrames, hr]
      rfl
    have hsame : U.sameButNew ({ U with heap := s₂.heap, slotsUsed := s₂.slotsUsed } : State) L mc ms := by
      refine ⟨?_, q2, q3, q4, q5, q6⟩
      obtain ⟨t, ht, -⟩ := State.frames_cons hr
      show ({ U with heap := s₂.heap, slotsUsed := s₂.slotsUsed } : State) = { U.setFrames U.frames with heap := s₂.heap, slotsUsed := s₂.slotsUsed }
      rw [State.setFrames_self ht]
    subst hg
    refine Or.inr ⟨q, ⟨(({ U with heap := s₂.heap, slotsUsed := s₂.slotsUsed } : State).setVm s₂.vm), Ls ++ L, c0 + mc, s0 + ms⟩,
      ⟨X.admits, X.cas, X.clock, X.frames, X.room, X.hears, X.method, X.code, (X.here.setHeapUsed s₂.heap s₂.slotsUsed).setVm hW'.alike, X.tail, State.WarmedH.trans X.warmed hW', X.limits, X.bytes, X.same.trans (hsame.setVm s.vm)⟩,
      ⟨g, mk, s₂, L, E, ce, rfl, rfl, hx, hce, hcv, hcl, rfl, hL, rfl, rfl⟩, ?_⟩
    show Steps p.tables e below _ (((({ U with heap := s₂.heap, slotsUsed := s₂.slotsUsed } : State).setVm s₂.vm).setTop g).pushFrame (.throwing q))
    rw [← hs₂]
    exact hsteps
end Payer
section Calls
variable {p : Program} {l : Launch} {e : Env} {R : Room} {s : State} {m : MethodId} {args : Array Value} {below : List Frame} {meth : Method} {c : Code} {T : State} {locs : List Loc} {cells slots : Nat}
theorem vx_callV (X : Stand p l e R s m args below meth c T locs cells slots) (hexec : p.tables.exec = Jvm.exec) {own C : String} {index : Nat} {y : MethodName} {bytes : ByteArray} {maxL : Nat} {ret : Option FieldType}
    (hown : s.vm.findClass own = some m.cls) (hlink : (Cond.methodLink own index y).before args s = true) (hinst : (Cond.instanceMethod y).before args s = true) (hsel : (Cond.selects C y y).before args s = true)
    (hcode : (Cond.code y bytes maxL ret).before args s = true) (hy : y.cls ≠ "java/lang/invoke/MethodHandle" ∧ y.cls ≠ "java/lang/invoke/VarHandle")
    {W9 : Nat} {Pre : Pt → Array Value → Prop} {Post : Pt → Array Value → Option Value → Pt → Prop} {PostX : Pt → Array Value → Addr → Pt → Prop} (hK : vx_Back l R p e below s args y 3 W9 Pre Post PostX)
    {b : Addr} {cellB : Cell} (hcell : T.heap[b]? = some cellB) (hobj : cellB.vm.isStatics = false) (hcls : s.vm.findClass C = some cellB.cls)
    {g : JFrame} (hg : g.method = m) (hsize : g.locals.size = c.maxLocals) {argsL rest : List Value} (hlen : ∀ sig, parseMethodDescriptor y.desc = some sig → argsL.length = sig.parameters.length)
    (hstack : g.stack = argsL.reverse ++ .ref b :: rest) (hW : 2 * g.monitorRoom + (rest.map fun v => v.category).sum ≤ W9) (hdg : decode c.code g.pc = .ok (.invokevirtual index, 3))
    (hpre : ∀ vm₁, s.WarmedH vm₁ → Pre ⟨T.setVm vm₁, locs, cells, slots⟩ (Value.ref b :: argsL).toArray) :
    (∃ (v : Option Value) (vm₁ : Vm) (B : Pt), s.WarmedH vm₁ ∧ Stand p l e R s m args below meth c B.U B.locs B.cells B.slots ∧ Post ⟨T.setVm vm₁, locs, cells, slots⟩ (Value.ref b :: argsL).toArray v B ∧
      ∀ target, Steps p.tables e below (B.U.setTop { g with pc := g.pc + 3, stack := v.toList ++ rest }) target → Steps p.tables e below (T.setTop g) target) ∨
    (∃ (q : Addr) (vm₁ : Vm) (B : Pt), s.WarmedH vm₁ ∧ Stand p l e R s m args below meth c B.U B.locs B.cells B.slots ∧ PostX ⟨T.setVm vm₁, locs, cells, slots⟩ (Value.ref b :: argsL).toArray q B ∧
      Steps p.tables e below (T.setTop g) ((B.U.setTop { g with stack := rest }).pushFrame (.throwing q))) := by
  obtain ⟨mk, methM, hnamed, hmethM, hstM, habM⟩ := Cond.instanceMethod_spec hinst
  obtain ⟨methM', cM, hmethM', -, -, -, -, -, -, hsigM⟩ := Cond.code_spec hnamed hcode
  cases hmethM.symm.trans hmethM'
  obtain ⟨c2, r2, m2, q1, q2, q3, q4, kP, hkP, hkPi⟩ := Cond.selects_spec hsel
  cases hcls.symm.trans q1
  cases (State.methodFound?_of_named hnamed hy).symm.trans q2
  cases hnamed.symm.trans q3
  have hselP : selectMethod e.platform s.vm cellB.cls mk = .method mk := by rw [Launch.admits_selectMethod X.admits]; exact q4
  obtain ⟨vm₁, X₁, hstep₁⟩ := X.invokevirtual hexec hown hlink hnamed hmethM hstM hkP hkPi hy (a := b) (cell := cellB) hcell
    (fun z h => by rw [h] at hobj; cases hobj) hselP hmethM habM hkP hkPi (g := g) hg (argsL := argsL) (rest := rest) (hlen _ hsigM) hstack hdg
  rcases hK m meth c ⟨T.setVm vm₁, locs, cells, slots⟩ { g with stack := rest } (.invokevirtual index) mk (Value.ref b :: argsL).toArray X₁ hg hsize hdg hW (X₁.named hnamed) (hpre vm₁ X₁.warmed) with ⟨v, B, X', hpost, hsteps⟩ | ⟨q, B, X', hpost, hsteps⟩
  · exact Or.inl ⟨v, vm₁, B, X₁.warmed, X', hpost, fun target h => hstep₁ _ fun acts => by rw [doInvoke_state]; exact hsteps.trans h⟩
  · exact Or.inr ⟨q, vm₁, B, X₁.warmed, X', hpost, hstep₁ _ fun acts => by rw [doInvoke_state]; exact hsteps⟩
theorem vx_callS (X : Stand p l e R s m args below meth c T locs cells slots) (hexec : p.tables.exec = Jvm.exec) {own : String} {index : Nat} {y : MethodName} {bytes : ByteArray} {maxL : Nat} {ret : Option FieldType}
    (hown : s.vm.findClass own = some m.cls) (hlink : (Cond.methodLink own index y).before args s = true) (hstat : (Cond.static y).before args s = true) (hinit : (Cond.initialized y.cls).before args s = true)
    (hcode : (Cond.code y bytes maxL ret).before args s = true) (hy : y.cls ≠ "java/lang/invoke/MethodHandle" ∧ y.cls ≠ "java/lang/invoke/VarHandle")
    {W9 : Nat} {Pre : Pt → Array Value → Prop} {Post : Pt → Array Value → Option Value → Pt → Prop} {PostX : Pt → Array Value → Addr → Pt → Prop} (hK : vx_Back l R p e below s args y 3 W9 Pre Post PostX)
    {g : JFrame} (hg : g.method = m) (hsize : g.locals.size = c.maxLocals) {argsL rest : List Value} (hlen : ∀ sig, parseMethodDescriptor y.desc = some sig → argsL.length = sig.parameters.length)
    (hstack : g.stack = argsL.reverse ++ rest) (hW : 2 * g.monitorRoom + (rest.map fun v => v.category).sum ≤ W9) (hdg : decode c.code g.pc = .ok (.invokestatic index, 3))
    (hpre : ∀ vm₁, s.WarmedH vm₁ → Pre ⟨T.setVm vm₁, locs, cells, slots⟩ argsL.toArray) :
    (∃ (v : Option Value) (vm₁ : Vm) (B : Pt), s.WarmedH vm₁ ∧ Stand p l e R s m args below meth c B.U B.locs B.cells B.slots ∧ Post ⟨T.setVm vm₁, locs, cells, slots⟩ argsL.toArray v B ∧
      ∀ target, Steps p.tables e below (B.U.setTop { g with pc := g.pc + 3, stack := v.toList ++ rest }) target → Steps p.tables e below (T.setTop g) target) ∨
    (∃ (q : Addr) (vm₁ : Vm) (B : Pt), s.WarmedH vm₁ ∧ Stand p l e R s m args below meth c B.U B.locs B.cells B.slots ∧ PostX ⟨T.setVm vm₁, locs, cells, slots⟩ argsL.toArray q B ∧
      Steps p.tables e below (T.setTop g) ((B.U.setTop { g with stack := rest }).pushFrame (.throwing q))) := by
  obtain ⟨mk, hnamed⟩ := Cond.code_named hcode
  obtain ⟨methM, cM, hmethM, -, -, -, -, -, -, hsigM⟩ := Cond.code_spec hnamed hcode
  have hstatic : methM.isStatic = true := Cond.static_spec hnamed hmethM hstat
  obtain ⟨kP, hkP, -⟩ := className_of_methodNamed hnamed
  have hinitP : kP.init = .initialized := Cond.initialized_spec (findClass_of_methodNamed hnamed) hkP hinit
  obtain ⟨vm₁, X₁, hstep₁⟩ := X.invokestatic hexec hown hlink hnamed hmethM hstatic hkP hinitP hy (g := g) hg (argsL := argsL) (rest := rest) (hlen _ hsigM) hstack hdg
  rcases hK m meth c ⟨T.setVm vm₁, locs, cells, slots⟩ { g with stack := rest } (.invokestatic index) mk argsL.toArray X₁ hg hsize hdg hW (X₁.named hnamed) (hpre vm₁ X₁.warmed) with ⟨v, B, X', hpost, hsteps⟩ | ⟨q, B, X', hpost, hsteps⟩
  · exact Or.inl ⟨v, vm₁, B, X₁.warmed, X', hpost, fun target h => hstep₁ _ fun acts => by rw [doInvoke_state]; exact hsteps.trans h⟩
  · exact Or.inr ⟨q, vm₁, B, X₁.warmed, X', hpost, hstep₁ _ fun acts => by rw [doInvoke_state]; exact hsteps⟩
end Calls
theorem vx_cls {s : State} {T : State} {vm₁ : Vm} {E : String} {k : ClassId} (hW : s.WarmedH vm₁) (h : (T.setVm vm₁).vm.findClass E = some k) : s.vm.findClass E = some k := by
  have h1 : vm₁.findClass E = some k := h
  rw [hW.alike.findClass] at h1
  exact h1
/-- the method's frame g, with q thrown over it -/
def vx_W (p : Program) (l : Launch) (e : Env) (R : Room) (s : State) (m : MethodId) (args : Array Value) (below : List Frame) (meth : Method) (c : Code) (H : Heap) (locs : List Loc) (cells slots : Nat) (Q : State → Prop) (g : JFrame) (q : Addr) : Prop :=
  ∀ T : State, T.heap = H → Stand p l e R s m args below meth c T locs cells slots → ∃ t, Steps p.tables e below ((T.setTop g).pushFrame (.throwing q)) t ∧ Q t
def vx_Run (p : Program) (l : Launch) (e : Env) (R : Room) (s : State) (m : MethodId) (args : Array Value) (below : List Frame) (meth : Method) (c : Code) (H : Heap) (locs : List Loc) (cells slots mc ms : Nat) (g : JFrame) (rest : List Value) (Qa : State → Outcome → State → Prop) (XC : String → State → State → Prop) (free : Addr → Prop) : Prop :=
  ∀ T : State, T.heap = H → Stand p l e R s m args below meth c T locs cells slots →
    (∃ (v : Option Value) (st₀ t T' : State) (L : List Loc), st₀.heap = H ∧ Stand p l e R s m args below meth c T' (locs ++ L) (cells + mc) (slots + ms) ∧ (∀ q ∈ L, free q.base) ∧ T'.heap = t.heap ∧ T'.vm = t.vm ∧ Qa st₀ (.returned v) t ∧
      Goes p e below T g T' { g with pc := g.pc + 3, stack := v.toList ++ rest }) ∨
    (∃ (q : Addr) (st₀ t T' : State) (L : List Loc) (E : String) (ce : Cell), st₀.heap = H ∧ Stand p l e R s m args below meth c T' (locs ++ L) (cells + mc) (slots + ms) ∧ (∀ z ∈ L, free z.base) ∧ T'.heap = t.heap ∧ T'.vm = t.vm ∧ XC E st₀ t ∧ t.heap[q]? = some ce ∧ ce.vm = .none ∧ s.vm.findClass E = some ce.cls ∧
      Steps p.tables e below (T.setTop g) ((T'.setTop { g with stack := rest }).pushFrame (.throwing q)))
def vx_X {S : Type} (px : S → Prop) (B : String → S → State → Prop) (A : Nat → Prop) : String → State → State → Prop := fun E st t => ∃ u : S, px u ∧ B E u t ∧ va_F A st t
section Runs
variable {p : Program} {l : Launch} {e : Env} {R : Room} {s : State} {m : MethodId} {args : Array Value} {below : List Frame} {meth : Method} {c : Code} {H : Heap} {locs : List Loc} {cells slots : Nat}
variable {y : MethodName} {bytes cc : ByteArray} {maxL nL mc ms n index : Nat} {ret : Option FieldType} {ws : List Cond} {rm : Room} {Pc : Array Value → State → Prop} {Qc : Array Value → State → Outcome → State → Prop} {XC : String → State → State → Prop} {free : Addr → Prop} {Ts : List Cond} {own C : String} {b : Addr} {As rest : List Value} {g : JFrame}
theorem vx_callBack (cb : CallB R s args own index y bytes maxL ret ws rm mc ms n) (hM : vx_Met l y ws rm Pc Qc XC mc ms free) (hbl : FrameBlind Pc) : vx_Back l R p e below s args y 3 8 (PreOf R mc ms Pc) (PostOf Qc mc ms free) (vx_Post XC mc ms free) := by
  obtain ⟨hrc, hrs, hfr, hlo, hws, hcw, -, hini, -⟩ := cb
  exact vx_back (bytes := bytes) (maxL := maxL) (ret := ret) hM hbl hrc hrs hfr hlo hws hcw (fun a' U hW => word_at hW (Or.inl (by first | rfl | simp [Cond.onTables, Cond.keeps, Cond.steady])) hini)
theorem vx_runV (S : CallFix p m c cc nL s args Ts own) (hM : vx_Met l y ws rm Pc Qc XC mc ms free) (cw : CallW R s args own C index y bytes maxL ret ws rm mc ms n) (hp : PreV s H C b Pc As)
    (hg : g.method = m) (hn : As.length = n) (hsize : g.locals.size = nL) (hstack : g.stack = As.reverse ++ .ref b :: rest) (hW : 2 * g.monitorRoom + (rest.map fun v => v.category).sum ≤ 8) (hdg : decode cc g.pc = .ok (.invokevirtual index, 3)) (hf : cells + mc ≤ R.cells ∧ slots + ms ≤ R.slots) :
    vx_Run p l e R s m args below meth c H locs cells slots mc ms g rest (Qc (Value.ref b :: As).toArray) XC free := by
  have hK : vx_Back l R p e below s args y 3 8 (PreOf R mc ms Pc) (PostOf Qc mc ms free) (vx_Post XC mc ms free) := vx_callBack cw.1 hM hp.1
  obtain ⟨⟨-, -, -, -, -, -, hcode, -, hy, hlen, hl⟩, hin, hse⟩ := cw
  obtain ⟨hx, hb, hml, ho, -⟩ := S
  obtain ⟨-, ⟨cellB, hcB, hoB, hclB⟩, hPc⟩ := hp
  intro T hT X
  rcases vx_callV X hx (C := C) (bytes := bytes) (maxL := maxL) (ret := ret) ho hl hin hse hcode hy hK (by rw [hT]; exact hcB) hoB hclB hg (hsize.trans hml.symm) (argsL := As) (rest := rest) (fun sig h => hn.trans (hlen sig h)) hstack hW (by rw [hb]; exact hdg)
    (fun vm₁ hW₁ => ⟨hf.1, hf.2, hPc (T.setVm vm₁) hT hW₁⟩) with ⟨v, vm₁, ⟨U', l2, c2, s2⟩, hW₁, X', ⟨g', mk, t, L, e1, e2, hq, h1, hL, h2, h3⟩, st⟩ | ⟨q, vm₁, ⟨U', l2, c2, s2⟩, hW₁, X', ⟨g', mk, t, L, E, ce, e1, e2, hq, hce, hcv, hcl, h1, hL, h2, h3⟩, st⟩
  · dsimp only [Pt.U, Pt.locs, Pt.cells, Pt.slots] at X' e1 e2 h1 h2 h3 st
    subst h1; subst h2; subst h3
    exact Or.inl ⟨v, (T.setVm vm₁).calling g' mk (Value.ref b :: As).toArray, t, U', L, hT, X', hL, e1, e2, hq, st⟩
  · dsimp only [Pt.U, Pt.locs, Pt.cells, Pt.slots] at X' e1 e2 h1 h2 h3 st hcl
    subst h1; subst h2; subst h3
    exact Or.inr ⟨q, (T.setVm vm₁).calling g' mk (Value.ref b :: As).toArray, t, U', L, E, ce, hT, X', hL, e1, e2, hq, hce, hcv, vx_cls hW₁ hcl, st⟩
theorem vx_runS (S : CallFix p m c cc nL s args Ts own) (hM : vx_Met l y ws rm Pc Qc XC mc ms free) (cw : CallB R s args own index y bytes maxL ret ws rm mc ms n ∧ (Cond.static y).before args s = true) (hp : PreS s H Pc As)
    (hg : g.method = m) (hn : As.length = n) (hsize : g.locals.size = nL) (hstack : g.stack = As.reverse ++ rest) (hW : 2 * g.monitorRoom + (rest.map fun v => v.category).sum ≤ 8) (hdg : decode cc g.pc = .ok (.invokestatic index, 3)) (hf : cells + mc ≤ R.cells ∧ slots + ms ≤ R.slots) :
    vx_Run p l e R s m args below meth c H locs cells slots mc ms g rest (Qc As.toArray) XC free := by
  have hK : vx_Back l R p e below s args y 3 8 (PreOf R mc ms Pc) (PostOf Qc mc ms free) (vx_Post XC mc ms free) := vx_callBack cw.1 hM hp.1
  obtain ⟨⟨-, -, -, -, -, -, hcode, hini, hy, hlen, hl⟩, hstt⟩ := cw
  obtain ⟨hx, hb, hml, ho, -⟩ := S
  intro T hT X
  rcases vx_callS X hx (bytes := bytes) (maxL := maxL) (ret := ret) ho hl hstt hini hcode hy hK hg (hsize.trans hml.symm) (argsL := As) (rest := rest) (fun sig h => hn.trans (hlen sig h)) hstack hW (by rw [hb]; exact hdg)
    (fun vm₁ hW₁ => ⟨hf.1, hf.2, hp.2 (T.setVm vm₁) hT hW₁⟩) with ⟨v, vm₁, ⟨U', l2, c2, s2⟩, hW₁, X', ⟨g', mk, t, L, e1, e2, hq, h1, hL, h2, h3⟩, st⟩ | ⟨q, vm₁, ⟨U', l2, c2, s2⟩, hW₁, X', ⟨g', mk, t, L, E, ce, e1, e2, hq, hce, hcv, hcl, h1, hL, h2, h3⟩, st⟩
  · dsimp only [Pt.U, Pt.locs, Pt.cells, Pt.slots] at X' e1 e2 h1 h2 h3 st
    subst h1; subst h2; subst h3
    exact Or.inl ⟨v, (T.setVm vm₁).calling g' mk As.toArray, t, U', L, hT, X', hL, e1, e2, hq, st⟩
  · dsimp only [Pt.U, Pt.locs, Pt.cells, Pt.slots] at X' e1 e2 h1 h2 h3 st hcl
    subst h1; subst h2; subst h3
    exact Or.inr ⟨q, (T.setVm vm₁).calling g' mk As.toArray, t, U', L, E, ce, hT, X', hL, e1, e2, hq, hce, hcv, vx_cls hW₁ hcl, st⟩
end Runs
section Rows
variable {p : Program} {l : Launch} {e : Env} {R : Room} {s : State} {m : MethodId} {args : Array Value} {below : List Frame} {meth : Method} {c : Code} {H : Heap} {locs : List Loc} {cells slots : Nat} {Q : State → Prop}
variable {mc ms : Nat} {free : Addr → Prop} {A0 A1 : Nat → Prop} {H0 : Heap} {a : Array Value} {pc : Nat} {ls : Array Slot} {st0 rest : List Value}
theorem vx_keep {st₀ t T' : State} {L : List Loc} (h0 : st₀.heap = H) (e1 : T'.heap = t.heap) (hS : va_S A0 H0 H locs) (hA : ∀ q, q < H.size → A1 q → A0 q) (hf : ∀ q, free q → A0 q) (hL : ∀ q ∈ L, free q.base) (hF : va_F A1 st₀ t) :
    H.size ≤ T'.heap.size ∧ (∀ q : Nat, q < H.size → ¬ A1 q → T'.heap[q]? = H[q]?) ∧ va_S A0 H0 T'.heap (locs ++ L) := by
  obtain ⟨hz, hk⟩ := hF
  rw [h0] at hz hk
  exact ⟨by rw [e1]; exact hz, fun q h1 h2 => by rw [e1]; exact hk q h1 h2,
    ⟨Nat.le_trans hS.1 (by rw [e1]; exact hz), fun q h1 h2 => by rw [e1, hk q (Nat.lt_of_lt_of_le h1 hS.1) (fun z => h2 (hA q (Nat.lt_of_lt_of_le h1 hS.1) z))]; exact hS.2.1 q h1 h2, fun q hq => by
      rcases List.mem_append.mp hq with h | h
      · exact hS.2.2 q h
      · exact hf _ (hL q h)⟩⟩
theorem vx_calli {S SX : Type} {post : Int32 → S → Prop} {px : SX → Prop} {B : S → State → Prop} {BX : String → SX → State → Prop} {AX : Nat → Prop} (hr : vx_Run p l e R s m args below meth c H locs cells slots mc ms (F0 m pc ls st0) rest (va_Qi post B A1 a) (vx_X px BX AX) free) (hS : va_S A0 H0 H locs) (hA : ∀ q, q < H.size → A1 q → A0 q) (hf : ∀ q, free q → A0 q) (hAX : ∀ q, q < H.size → AX q → A0 q)
    (kx : ∀ (E : String) (ce : Cell) (q9 : Addr) (u : SX) (t : State) (H1 : Heap) (locs1 : List Loc), t.heap = H1 → s.vm.Alike t.vm → px u → BX E u t → H.size ≤ H1.size → (∀ q : Nat, q < H.size → ¬ AX q → H1[q]? = H[q]?) → va_S A0 H0 H1 locs1 → H1[q9]? = some ce → ce.vm = .none → s.vm.findClass E = some ce.cls → vx_W p l e R s m args below meth c H1 locs1 (cells + mc) (slots + ms) Q (F0 m pc ls rest) q9)
    (kk : ∀ (r : Int32) (u : S) (t : State) (H1 : Heap) (locs1 : List Loc), t.heap = H1 → s.vm.Alike t.vm → post r u → B u t → H.size ≤ H1.size → (∀ q : Nat, q < H.size → ¬ A1 q → H1[q]? = H[q]?) → va_S A0 H0 H1 locs1 → W p l e R s m args below meth c H1 locs1 (cells + mc) (slots + ms) Q (F0 m (pc + 3) ls (.int r :: rest))) : W p l e R s m args below meth c H locs cells slots Q (F0 m pc ls st0) := by
  intro T hT X
  rcases hr T hT X with ⟨v, st₀, t, T', L, h0, X', hL, e1, e2, ⟨⟨r, u, hv, hp, hb⟩, hF⟩, st⟩ | ⟨q, st₀, t, T', L, E, ce, h0, X', hL, e1, e2, ⟨u, hp, hb, hF⟩, hce, hcv, hcl, st⟩
  · cases hv
    obtain ⟨k1, k2, k3⟩ := vx_keep h0 e1 hS hA hf hL hF
    obtain ⟨t2, a1, b1⟩ := kk r u t T'.heap (locs ++ L) e1.symm (by rw [← e2]; exact X'.warmed.alike) hp hb k1 k2 k3 T' rfl X'
    exact ⟨t2, st t2 a1, b1⟩
  · obtain ⟨k1, k2, k3⟩ := vx_keep h0 e1 hS hAX hf hL hF
    obtain ⟨t2, a1, b1⟩ := kx E ce q u t T'.heap (locs ++ L) e1.symm (by rw [← e2]; exact X'.warmed.alike) hp hb k1 k2 k3 (by rw [e1]; exact hce) hcv hcl T' rfl X'
    exact ⟨t2, st.trans a1, b1⟩
theorem vx_calll {S SX : Type} {post : Int64 → S → Prop} {px : SX → Prop} {B : S → State → Prop} {BX : String → SX → State → Prop} {AX : Nat → Prop} (hr : vx_Run p l e R s m args below meth c H locs cells slots mc ms (F0 m pc ls st0) rest (va_Ql post B A1 a) (vx_X px BX AX) free) (hS : va_S A0 H0 H locs) (hA : ∀ q, q < H.size → A1 q → A0 q) (hf : ∀ q, free q → A0 q) (hAX : ∀ q, q < H.size → AX q → A0 q)
    (kx : ∀ (E : String) (ce : Cell) (q9 : Addr) (u : SX) (t : State) (H1 : Heap) (locs1 : List Loc), t.heap = H1 → s.vm.Alike t.vm → px u → BX E u t → H.size ≤ H1.size → (∀ q : Nat, q < H.size → ¬ AX q → H1[q]? = H[q]?) → va_S A0 H0 H1 locs1 → H1[q9]? = some ce → ce.vm = .none → s.vm.findClass E = some ce.cls → vx_W p l e R s m args below meth c H1 locs1 (cells + mc) (slots + ms) Q (F0 m pc ls rest) q9)
    (kk : ∀ (r : Int64) (u : S) (t : State) (H1 : Heap) (locs1 : List Loc), t.heap = H1 → s.vm.Alike t.vm → post r u → B u t → H.size ≤ H1.size → (∀ q : Nat, q < H.size → ¬ A1 q → H1[q]? = H[q]?) → va_S A0 H0 H1 locs1 → W p l e R s m args below meth c H1 locs1 (cells + mc) (slots + ms) Q (F0 m (pc + 3) ls (.long r :: rest))) : W p l e R s m args below meth c H locs cells slots Q (F0 m pc ls st0) := by
  intro T hT X
  rcases hr T hT X with ⟨v, st₀, t, T', L, h0, X', hL, e1, e2, ⟨⟨r, u, hv, hp, hb⟩, hF⟩, st⟩ | ⟨q, st₀, t, T', L, E, ce, h0, X', hL, e1, e2, ⟨u, hp, hb, hF⟩, hce, hcv, hcl, st⟩
  · cases hv
    obtain ⟨k1, k2, k3⟩ := vx_keep h0 e1 hS hA hf hL hF
    obtain ⟨t2, a1, b1⟩ := kk r u t T'.heap (locs ++ L) e1.symm (by rw [← e2]; exact X'.warmed.alike) hp hb k1 k2 k3 T' rfl X'
    exact ⟨t2, st t2 a1, b1⟩
  · obtain ⟨k1, k2, k3⟩ := vx_keep h0 e1 hS hAX hf hL hF
    obtain ⟨t2, a1, b1⟩ := kx E ce q u t T'.heap (locs ++ L) e1.symm (by rw [← e2]; exact X'.warmed.alike) hp hb k1 k2 k3 (by rw [e1]; exact hce) hcv hcl T' rfl X'
    exact ⟨t2, st.trans a1, b1⟩
theorem vx_callf {S SX : Type} {post : UInt32 → S → Prop} {px : SX → Prop} {B : S → State → Prop} {BX : String → SX → State → Prop} {AX : Nat → Prop} (hr : vx_Run p l e R s m args below meth c H locs cells slots mc ms (F0 m pc ls st0) rest (va_Qf post B A1 a) (vx_X px BX AX) free) (hS : va_S A0 H0 H locs) (hA : ∀ q, q < H.size → A1 q → A0 q) (hf : ∀ q, free q → A0 q) (hAX : ∀ q, q < H.size → AX q → A0 q)
    (kx : ∀ (E : String) (ce : Cell) (q9 : Addr) (u : SX) (t : State) (H1 : Heap) (locs1 : List Loc), t.heap = H1 → s.vm.Alike t.vm → px u → BX E u t → H.size ≤ H1.size → (∀ q : Nat, q < H.size → ¬ AX q → H1[q]? = H[q]?) → va_S A0 H0 H1 locs1 → H1[q9]? = some ce → ce.vm = .none → s.vm.findClass E = some ce.cls → vx_W p l e R s m args below meth c H1 locs1 (cells + mc) (slots + ms) Q (F0 m pc ls rest) q9)
    (kk : ∀ (r : UInt32) (u : S) (t : State) (H1 : Heap) (locs1 : List Loc), t.heap = H1 → s.vm.Alike t.vm → post r u → B u t → H.size ≤ H1.size → (∀ q : Nat, q < H.size → ¬ A1 q → H1[q]? = H[q]?) → va_S A0 H0 H1 locs1 → W p l e R s m args below meth c H1 locs1 (cells + mc) (slots + ms) Q (F0 m (pc + 3) ls (.float r :: rest))) : W p l e R s m args below meth c H locs cells slots Q (F0 m pc ls st0) := by
  intro T hT X
  rcases hr T hT X with ⟨v, st₀, t, T', L, h0, X', hL, e1, e2, ⟨⟨r, u, hv, hp, hb⟩, hF⟩, st⟩ | ⟨q, st₀, t, T', L, E, ce, h0, X', hL, e1, e2, ⟨u, hp, hb, hF⟩, hce, hcv, hcl, st⟩
  · cases hv
    obtain ⟨k1, k2, k3⟩ := vx_keep h0 e1 hS hA hf hL hF
    obtain ⟨t2, a1, b1⟩ := kk r u t T'.heap (locs ++ L) e1.symm (by rw [← e2]; exact X'.warmed.alike) hp hb k1 k2 k3 T' rfl X'
    exact ⟨t2, st t2 a1, b1⟩
  · obtain ⟨k1, k2, k3⟩ := vx_keep h0 e1 hS hAX hf hL hF
    obtain ⟨t2, a1, b1⟩ := kx E ce q u t T'.heap (locs ++ L) e1.symm (by rw [← e2]; exact X'.warmed.alike) hp hb k1 k2 k3 (by rw [e1]; exact hce) hcv hcl T' rfl X'
    exact ⟨t2, st.trans a1, b1⟩
theorem vx_calld {S SX : Type} {post : UInt64 → S → Prop} {px : SX → Prop} {B : S → State → Prop} {BX : String → SX → State → Prop} {AX : Nat → Prop} (hr : vx_Run p l e R s m args below meth c H locs cells slots mc ms (F0 m pc ls st0) rest (va_Qd post B A1 a) (vx_X px BX AX) free) (hS : va_S A0 H0 H locs) (hA : ∀ q, q < H.size → A1 q → A0 q) (hf : ∀ q, free q → A0 q) (hAX : ∀ q, q < H.size → AX q → A0 q)
    (kx : ∀ (E : String) (ce : Cell) (q9 : Addr) (u : SX) (t : State) (H1 : Heap) (locs1 : List Loc), t.heap = H1 → s.vm.Alike t.vm → px u → BX E u t → H.size ≤ H1.size → (∀ q : Nat, q < H.size → ¬ AX q → H1[q]? = H[q]?) → va_S A0 H0 H1 locs1 → H1[q9]? = some ce → ce.vm = .none → s.vm.findClass E = some ce.cls → vx_W p l e R s m args below meth c H1 locs1 (cells + mc) (slots + ms) Q (F0 m pc ls rest) q9)
    (kk : ∀ (r : UInt64) (u : S) (t : State) (H1 : Heap) (locs1 : List Loc), t.heap = H1 → s.vm.Alike t.vm → post r u → B u t → H.size ≤ H1.size → (∀ q : Nat, q < H.size → ¬ A1 q → H1[q]? = H[q]?) → va_S A0 H0 H1 locs1 → W p l e R s m args below meth c H1 locs1 (cells + mc) (slots + ms) Q (F0 m (pc + 3) ls (.double r :: rest))) : W p l e R s m args below meth c H locs cells slots Q (F0 m pc ls st0) := by
  intro T hT X
  rcases hr T hT X with ⟨v, st₀, t, T', L, h0, X', hL, e1, e2, ⟨⟨r, u, hv, hp, hb⟩, hF⟩, st⟩ | ⟨q, st₀, t, T', L, E, ce, h0, X', hL, e1, e2, ⟨u, hp, hb, hF⟩, hce, hcv, hcl, st⟩
  · cases hv
    obtain ⟨k1, k2, k3⟩ := vx_keep h0 e1 hS hA hf hL hF
    obtain ⟨t2, a1, b1⟩ := kk r u t T'.heap (locs ++ L) e1.symm (by rw [← e2]; exact X'.warmed.alike) hp hb k1 k2 k3 T' rfl X'
    exact ⟨t2, st t2 a1, b1⟩
  · obtain ⟨k1, k2, k3⟩ := vx_keep h0 e1 hS hAX hf hL hF
    obtain ⟨t2, a1, b1⟩ := kx E ce q u t T'.heap (locs ++ L) e1.symm (by rw [← e2]; exact X'.warmed.alike) hp hb k1 k2 k3 (by rw [e1]; exact hce) hcv hcl T' rfl X'
    exact ⟨t2, st.trans a1, b1⟩
theorem vx_callv {S SX : Type} {post : S → Prop} {px : SX → Prop} {B : S → State → Prop} {BX : String → SX → State → Prop} {AX : Nat → Prop} (hr : vx_Run p l e R s m args below meth c H locs cells slots mc ms (F0 m pc ls st0) rest (va_Qv post B A1 a) (vx_X px BX AX) free) (hS : va_S A0 H0 H locs) (hA : ∀ q, q < H.size → A1 q → A0 q) (hf : ∀ q, free q → A0 q) (hAX : ∀ q, q < H.size → AX q → A0 q)
    (kx : ∀ (E : String) (ce : Cell) (q9 : Addr) (u : SX) (t : State) (H1 : Heap) (locs1 : List Loc), t.heap = H1 → s.vm.Alike t.vm → px u → BX E u t → H.size ≤ H1.size → (∀ q : Nat, q < H.size → ¬ AX q → H1[q]? = H[q]?) → va_S A0 H0 H1 locs1 → H1[q9]? = some ce → ce.vm = .none → s.vm.findClass E = some ce.cls → vx_W p l e R s m args below meth c H1 locs1 (cells + mc) (slots + ms) Q (F0 m pc ls rest) q9)
    (kk : ∀ (u : S) (t : State) (H1 : Heap) (locs1 : List Loc), t.heap = H1 → s.vm.Alike t.vm → post u → B u t → H.size ≤ H1.size → (∀ q : Nat, q < H.size → ¬ A1 q → H1[q]? = H[q]?) → va_S A0 H0 H1 locs1 → W p l e R s m args below meth c H1 locs1 (cells + mc) (slots + ms) Q (F0 m (pc + 3) ls (rest))) : W p l e R s m args below meth c H locs cells slots Q (F0 m pc ls st0) := by
  intro T hT X
  rcases hr T hT X with ⟨v, st₀, t, T', L, h0, X', hL, e1, e2, ⟨⟨u, hv, hp, hb⟩, hF⟩, st⟩ | ⟨q, st₀, t, T', L, E, ce, h0, X', hL, e1, e2, ⟨u, hp, hb, hF⟩, hce, hcv, hcl, st⟩
  · cases hv
    obtain ⟨k1, k2, k3⟩ := vx_keep h0 e1 hS hA hf hL hF
    obtain ⟨t2, a1, b1⟩ := kk u t T'.heap (locs ++ L) e1.symm (by rw [← e2]; exact X'.warmed.alike) hp hb k1 k2 k3 T' rfl X'
    exact ⟨t2, st t2 a1, b1⟩
  · obtain ⟨k1, k2, k3⟩ := vx_keep h0 e1 hS hAX hf hL hF
    obtain ⟨t2, a1, b1⟩ := kx E ce q u t T'.heap (locs ++ L) e1.symm (by rw [← e2]; exact X'.warmed.alike) hp hb k1 k2 k3 (by rw [e1]; exact hce) hcv hcl T' rfl X'
    exact ⟨t2, st.trans a1, b1⟩
/-- caught by the row x of this method's table; the rows ahead don't take it -/
theorem vx_catch {own name : String} {E : String} {ce : Cell} {q : Addr} (hown : s.vm.findClass own = some m.cls) (pre : List ExceptionTableEntry) (x : ExceptionTableEntry) (suf : List ExceptionTableEntry) (hsplit : c.exceptionTable.toList = pre ++ x :: suf)
    (hpass : ∀ z ∈ pre, covers z pc = false ∨ (z.catchType ≠ 0 ∧ ∃ nm : String, (Cond.classLink own z.catchType nm).before args s = true ∧ va_Nc E nm s)) (hx : covers x pc = true) (h0 : x.catchType ≠ 0)
    (hlink : (Cond.classLink own x.catchType name).before args s = true) (hcast : (Cond.castable E name).before args s = true) (hcell : H[q]? = some ce) (hv : ce.vm = .none) (hcl : s.vm.findClass E = some ce.cls)
    (kk : W p l e R s m args below meth c H locs cells slots Q (F0 m x.handlerPc ls [.ref q])) : vx_W p l e R s m args below meth c H locs cells slots Q (F0 m pc ls rest) q := by
  intro T hT X
  have hpl : e.platform.magicAccessors = ({} : Platform).magicAccessors := by rw [X.admits.platform]
  obtain ⟨c3, c4, hc3, hc4, hasg⟩ := Cond.castable_spec hcast
  cases Option.some.inj (hc3.symm.trans hcl)
  obtain ⟨c5, hc5, hcl5⟩ := Cond.classLink_spec hown hlink e.platform hpl
  cases Option.some.inj (hc4.symm.trans hc5)
  obtain ⟨vm', X', st⟩ := X.thenCaughtThrough q (g := F0 m pc ls rest) rfl (Steps.refl _) (by rw [hT]; exact hcell) (by rw [hv]; rfl) (by obtain ⟨k9, h9, -⟩ := Vm.findClass_spec hcl; exact ⟨k9, h9⟩) pre x suf hsplit
    (fun z hz => by
      rcases hpass z hz with h | ⟨hz0, nm, hl1, hn1⟩
      · exact Or.inl h
      · obtain ⟨c6, hc6, hcl6⟩ := Cond.classLink_spec hown hl1 e.platform hpl
        obtain ⟨a8, b8, h1, h2, h3⟩ := hn1
        cases Option.some.inj (h1.symm.trans hcl)
        cases Option.some.inj (h2.symm.trans hc6)
        exact Or.inr ⟨hz0, _, hcl6, h3⟩) hx (Or.inr ⟨h0, c4, hcl5, hasg⟩)
  obtain ⟨t, a1, b1⟩ := kk (T.setVm vm') hT X'
  exact ⟨t, st.trans a1, b1⟩
end Rows
section Ends
variable {p : Program} {l : Launch} {e : Env} {R : Room} {s : State} {m : MethodId} {args : Array Value} {below : List Frame} {meth : Method} {c : Code} {H : Heap} {locs : List Loc} {cells slots : Nat} {Q : State → Prop}
variable {mc ms : Nat} {free : Addr → Prop} {A0 A1 : Nat → Prop} {H0 : Heap} {a : Array Value} {ls : Array Slot} {st0 rest : List Value}
variable {Qc : Array Value → State → Outcome → State → Prop} {XC : String → State → State → Prop}
/-- what a body that may throw owes at its end -/
def vx_MQ (below : List Frame) (Qc : Array Value → State → Outcome → State → Prop) (XC : String → State → State → Prop) (a : Array Value) (s : State) (mc ms : Nat) (free : Addr → Prop) : State → Prop := fun t =>
  ∃ o, t.status = .running ∧ Ended t below o ∧ vx_Q Qc XC mc ms free a s o t
theorem vx_ret {g : JFrame} {mc ms : Nat} (k : W p l e R s m args below meth c H locs cells slots (MQ below Qc args s mc ms free) g) : W p l e R s m args below meth c H locs cells slots (vx_MQ below Qc XC args s mc ms free) g := by
  intro T hT X
  obtain ⟨t, a1, o, b1, b2, b3, b4⟩ := k T hT X
  exact ⟨t, a1, o, b1, b2, Or.inl ⟨b3, b4⟩⟩
/-- not caught here: it goes on to the caller -/
theorem vx_widen {g : JFrame} {q : Addr} {k n : Nat} (h1 : cells ≤ k) (h2 : slots ≤ n) (kk : vx_W p l e R s m args below meth c H locs k n Q g q) : vx_W p l e R s m args below meth c H locs cells slots Q g q := fun T hT X => kk T hT (stand_widen X h1 h2)
theorem vx_out {pc : Nat} {E : String} {ce : Cell} {q : Addr} {mc ms : Nat} (hout : ∀ x ∈ c.exceptionTable.toList, covers x pc = false) (hlocks : meth.locks = false) (hcell : H[q]? = some ce) (hv : ce.vm = .none) (hcl : s.vm.findClass E = some ce.cls)
    (hx : ∀ t : State, t.heap = H → s.vm.Alike t.vm → XC E s t) (hf : ∀ z ∈ locs, free z.base) (hc : cells ≤ mc) (hs : slots ≤ ms) :
    vx_W p l e R s m args below meth c H locs cells slots (vx_MQ below Qc XC args s mc ms free) (F0 m pc ls rest) q := by
  intro T hT X
  obtain ⟨st1, hrun, hend, hW, hsm⟩ := X.leaveThrown q (g := F0 m pc ls rest) rfl rfl rfl hout hlocks
  have hcell9 : (T.setFrames (.throwing q :: below)).heap[q]? = some ce := by
    show T.heap[q]? = some ce
    rw [hT]; exact hcell
  exact ⟨_, st1, .threw q, hrun, hend, Or.inr ⟨q, rfl, E, ce, locs, hx _ hT hW.alike, hcell9, hv, hcl, hW, hsm.mono hc hs, hf⟩⟩
theorem vx_frame {U : State} {k n : Nat} (h : s.sameButNew ({ U with vm := s.vm } : State) locs k n) : s.heap.size ≤ U.heap.size ∧ ∀ q : Nat, q < s.heap.size → (∀ z ∈ locs, z.base ≠ q) → U.heap[q]? = s.heap[q]? := by
  obtain ⟨-, h2, -, -, -, h6⟩ := h
  refine ⟨h2, fun q hq hz => ?_⟩
  obtain ⟨c9, e1, e2, e3, e4⟩ := h6 q _ (Array.getElem?_eq_getElem hq)
  have hs : c9.slots = (s.heap[q]).slots := Array.ext_getElem? fun i => e4 i fun hm => hz _ hm rfl
  have h9 : c9 = s.heap[q] := by
    rw [hs] at e2
    exact e2
  have e5 : U.heap[q]? = some c9 := e1
  rw [e5, h9, Array.getElem?_eq_getElem hq]
/-- the words of a throw but the four that speak of the heap -/
def vx_no (w : Cond) : Bool := decide (w ≠ .isRef (.static Bundle.tN "UNASSIGNED_STACK" Bundle.steD)) && decide (w ≠ .isRef (.static Bundle.tN "SUPPRESSED_SENTINEL" Bundle.listD)) && decide (w ≠ .laysStatic Bundle.tN "UNASSIGNED_STACK" Bundle.steD) && decide (w ≠ .laysStatic Bundle.tN "SUPPRESSED_SENTINEL" Bundle.listD)
def vx_at0 (own : String) (ic : Nat) (X : String) (names : List String) : List Cond := (Bundle.ownAtoms0 own ic X names).filter vx_no
def vx_atS (own : String) (ic : Nat) (X : String) (names : List String) : List Cond := (Bundle.ownAtoms own ic X names).filter vx_no
/-- a word that the tables alone decide, or a good one -/
def vx_ot (w : Cond) : Bool := w.onTables || goodWord w
theorem vx_ot_at {args a' : Array Value} {s U : State} {w : Cond} (hW : s.WarmedH U.vm) (hvm : s.vm = U.vm) (hg : vx_ot w = true) (h : w.before args s = true) : w.before a' U = true := by
  simp only [vx_ot, Bool.or_eq_true] at hg
  rcases hg with hg | hg
  · exact va_tabs hg hvm h
  · exact word_at hW (good_of_word hg) h
/-- a list's words: the good ones out of the method's own list, the others by premises of their own -/
theorem vx_hat {args : Array Value} {s : State} {L B : List Cond} (h1 : ∀ w ∈ L.filter goodWord, w.before args s = true) (h2 : ∀ w ∈ L.filter (fun w => !goodWord w), w ∈ B) (h3 : ∀ w ∈ B, w.before args s = true) : ∀ w ∈ L, w.before args s = true := by
  intro w hw
  by_cases g : goodWord w = true
  · exact h1 w (List.mem_filter.mpr ⟨hw, g⟩)
  · refine h3 w (h2 w (List.mem_filter.mpr ⟨hw, ?_⟩))
    show (!goodWord w) = true
    cases hgw : goodWord w
    · rfl
    · exact absurd hgw g
theorem vx_c {args : Array Value} {s : State} {w : Cond} {B : List Cond} (h : w.before args s = true) (t : ∀ w ∈ B, w.before args s = true) : ∀ w' ∈ w :: B, w'.before args s = true := fun w' h' => (List.mem_cons.mp h').elim (fun e => by rw [e]; exact h) (t w')
theorem vx_n {args : Array Value} {s : State} : ∀ w ∈ ([] : List Cond), w.before args s = true := fun _ h => nomatch h
theorem vx_own {args : Array Value} {s : State} {L : List Cond} (h1 : ∀ w ∈ L.filter vx_no, w.before args s = true)
    (hU : (Cond.isRef (.static Bundle.tN "UNASSIGNED_STACK" Bundle.steD)).before args s = true) (hN : (Cond.isRef (.static Bundle.tN "SUPPRESSED_SENTINEL" Bundle.listD)).before args s = true)
    (lU : (Cond.laysStatic Bundle.tN "UNASSIGNED_STACK" Bundle.steD).before args s = true) (lN : (Cond.laysStatic Bundle.tN "SUPPRESSED_SENTINEL" Bundle.listD).before args s = true) : ∀ w ∈ L, w.before args s = true := by
  intro w hw
  by_cases e1 : w = .isRef (.static Bundle.tN "UNASSIGNED_STACK" Bundle.steD)
  · rw [e1]; exact hU
  · by_cases e2 : w = .isRef (.static Bundle.tN "SUPPRESSED_SENTINEL" Bundle.listD)
    · rw [e2]; exact hN
    · by_cases e3 : w = .laysStatic Bundle.tN "UNASSIGNED_STACK" Bundle.steD
      · rw [e3]; exact lU
      · by_cases e4 : w = .laysStatic Bundle.tN "SUPPRESSED_SENTINEL" Bundle.listD
        · rw [e4]; exact lN
        · exact h1 w (List.mem_filter.mpr ⟨hw, by unfold vx_no; rw [decide_eq_true e1, decide_eq_true e2, decide_eq_true e3, decide_eq_true e4]; rfl⟩)
/-- where a static field lies, its class's statics cell in H -/
def vx_L (C n d : String) (A : Nat → Prop) (U : State) (H : Heap) : Prop := ∃ (c : ClassId) (k : Class) (i : Nat) (f : Field) (a : Nat) (cell : Cell), U.vm.findClass C = some c ∧ U.fieldFound? C n d = some (c, k, i, f) ∧ f.isStatic = true ∧ k.statics = some a ∧ H[a]? = some cell ∧ cell.vm.isStatics = true ∧ cell.cls = c ∧ f.slot < cell.slots.size ∧ k.staticTypes[f.slot]? = some f.type ∧ ¬ A a
theorem vx_L.moved {C n d : String} {A : Nat → Prop} {u U : State} {H : Heap} (hvm : u.vm.Alike U.vm) (h : vx_L C n d A u H) : vx_L C n d A U H := by
  obtain ⟨c, k, i, f, a, cell, h1, h2, h3, h4, h5, h6, h7, h8, h9, h10⟩ := h
  obtain ⟨k', hi', he⟩ := State.fieldFound?_setVm hvm h2
  exact ⟨c, k', i, f, a, cell, by rw [hvm.findClass]; exact h1, hi', h3, by rw [he]; exact h4, h5, h6, h7, h8, by rw [he]; exact h9, h10⟩
theorem vx_L.kept {C n d : String} {A : Nat → Prop} {U : State} {H H1 : Heap} (h : vx_L C n d A U H) (hq : ∀ a : Nat, a < H.size → ¬ A a → H1[a]? = H[a]?) : vx_L C n d A U H1 := by
  obtain ⟨c, k, i, f, a, cell, h1, h2, h3, h4, h5, h6, h7, h8, h9, h10⟩ := h
  exact ⟨c, k, i, f, a, cell, h1, h2, h3, h4, by rw [hq a (Array.getElem?_eq_some_iff.mp h5).1 h10]; exact h5, h6, h7, h8, h9, h10⟩
theorem vx_L.narrow {C n d : String} {A B : Nat → Prop} {U : State} {H : Heap} (h : vx_L C n d A U H) (hAB : ∀ q, B q → A q) : vx_L C n d B U H := by
  obtain ⟨c, k, i, f, a, cell, h1, h2, h3, h4, h5, h6, h7, h8, h9, h10⟩ := h
  exact ⟨c, k, i, f, a, cell, h1, h2, h3, h4, h5, h6, h7, h8, h9, fun z => h10 (hAB _ z)⟩
theorem vx_L.word {C n d : String} {A : Nat → Prop} {s : State} {args : Array Value} (h : vx_L C n d A s s.heap) : (Cond.laysStatic C n d).before args s = true := by
  obtain ⟨c, k, i, f, a, cell, h1, h2, h3, h4, h5, h6, h7, h8, h9, -⟩ := h
  show (Cond.laysStatic C n d).holds args s none s [] = true
  exact Cond.laysStatic_of h1 h2 h3 h4 h5 h6 h7 h8 h9
/-- .. and what it holds: null or some reference -/
def vx_Zq (C n d : String) (A : Nat → Prop) (U : State) (H : Heap) : Prop := va_Zq C n d A U H ∧ vx_L C n d A U H
theorem vx_Zq.moved {C n d : String} {A : Nat → Prop} {u U : State} {H : Heap} (hvm : u.vm.Alike U.vm) (h : vx_Zq C n d A u H) : vx_Zq C n d A U H := ⟨va_Zq.moved hvm h.1, vx_L.moved hvm h.2⟩
theorem vx_Zq.kept {C n d : String} {A : Nat → Prop} {U : State} {H H1 : Heap} (h : vx_Zq C n d A U H) (hq : ∀ a : Nat, a < H.size → ¬ A a → H1[a]? = H[a]?) : vx_Zq C n d A U H1 := ⟨va_Zq.kept h.1 hq, vx_L.kept h.2 hq⟩
theorem vx_Zq.narrow {C n d : String} {A B : Nat → Prop} {U : State} {H : Heap} (h : vx_Zq C n d A U H) (hAB : ∀ q, B q → A q) : vx_Zq C n d B U H := ⟨va_Zq.narrow h.1 hAB, vx_L.narrow h.2 hAB⟩
theorem vx_Zqof {args : Array Value} {s : State} {C n d : String} {A : Nat → Prop} (hl : (Cond.laysStatic C n d).before args s = true) (hini : (Cond.initialized C).before args s = true) (h : (Cond.isRef (.static C n d)).before args s = true) (hA : ∀ a : Nat, a < s.heap.size → ¬ A a) : vx_Zq C n d A s s.heap := by
  refine ⟨va_Zqof hl hini h hA, ?_⟩
  obtain ⟨c, k, i, f, a, cell, h1, h2, h3, h4, h5, h6, h7, h8, h9⟩ := Cond.laysStatic_spec hl
  exact ⟨c, k, i, f, a, cell, h1, h2, h3, h4, h5, h6, h7, h8, h9, hA a (Array.getElem?_eq_some_iff.mp h5).1⟩
theorem vx_isRef {C n d : String} {v : Value} {A : Nat → Prop} {s : State} {args : Array Value} (h : va_Z C n d v A s s.heap) (hv : v.isRef = true) : (Cond.isRef (.static C n d)).before args s = true := by
  obtain ⟨cf, kf, fi, f, a, cell, h1, h2, h3, h4, h5, h6, h7, -⟩ := h
  have he : (Term.static C n d).eval args s none [] s = some v := by
    simp [Term.eval, State.fieldNamed?, h1, h2, h4, h5, h6, h7]
  simp only [Cond.before, Cond.holds, Cond.value, he]
  cases v <;> simp_all [Value.isRef]
theorem vx_isRefq {C n d : String} {A : Nat → Prop} {s : State} {args : Array Value} (h : va_Zq C n d A s s.heap) : (Cond.isRef (.static C n d)).before args s = true := by
  rcases h with h | ⟨t, h⟩
  · exact vx_isRef h rfl
  · exact vx_isRef h rfl
/-- the same frame, seen from here: as if the method were called anew in this heap -/
theorem vx_rebase {T : State} (X : Stand p l e R s m args below meth c T locs cells slots) {R' : Room} (hf : R'.frames ≤ R.frames) (hl : R'.locals ≤ R.locals) (hc : cells + R'.cells ≤ R.cells) (hs : slots + R'.slots ≤ R.slots) :
    Stand p l e R' ((T.setVm s.vm).setFrames (.invoking m args :: below)) m args below meth c T [] 0 0 := by
  have htop : (T.setVm s.vm).topJava?.isSome := X.here.top
  have hF : ((T.setVm s.vm).setFrames (.invoking m args :: below)).frames = .invoking m args :: below := State.frames_setFrames _ (State.cur_lt_of_top htop)
  obtain ⟨g₀, hg0⟩ := Option.isSome_iff_exists.mp htop
  obtain ⟨r, hr⟩ := State.topJava?_eq_some.mp hg0
  have hl9 : e.platform.stackLimits (T.setVm s.vm).me = e.platform.stackLimits s.me := X.limits
  have hb9 : (T.setVm s.vm).me.stackBytes = s.me.stackBytes := X.bytes
  refine ⟨X.admits, X.cas, X.clock, hF, ?_, X.hears, X.method, X.code, X.here, X.tail, X.warmed, ?_, ?_, ?_⟩
  · have h := X.room
    have hU : ((T.setVm s.vm).setFrames (.invoking m args :: below)).localsInUse = s.localsInUse := by
      rw [State.localsInUse_invoking hF (meth := meth) (c := c) X.method X.code, State.localsInUse_invoking X.frames X.method X.code]
    simp only [State.hasRoom, Bool.and_eq_true, decide_eq_true_eq] at h ⊢
    obtain ⟨⟨⟨⟨h1, h2, h3, h4, h5, h6⟩, h7⟩, h8⟩, h9⟩ := h
    rw [X.frames, List.length_cons] at h2 h3
    have q1 := X.heapSize
    have q2 := X.used
    simp only [hF, hU, List.length_cons, State.stackLimits_setFrames, State.stackBytes_setFrames, hl9, hb9]
    refine ⟨⟨⟨⟨by omega, by omega, by omega, by omega, by omega, h6⟩, ?_⟩, ?_⟩, X.book⟩
    · show T.heap.size + R'.cells ≤ e.platform.maxCells
      omega
    · show T.slotsUsed + R'.slots ≤ e.platform.maxSlots
      omega
  · rw [State.stackLimits_setFrames]; rfl
  · rw [State.stackBytes_setFrames]; rfl
  · refine ⟨?_, Nat.le_refl _, Nat.le_refl _, ?_, ?_, fun a c9 h9 => ⟨c9, h9, rfl, rfl, fun _ _ => rfl⟩⟩
    · obtain ⟨t, ht, -⟩ := State.frames_cons hr
      show T.setVm s.vm = { ((T.setVm s.vm).setFrames (.invoking m args :: below)).setFrames (T.setVm s.vm).frames with heap := T.heap, slotsUsed := T.slotsUsed }
      rw [State.setFrames_setFrames, State.setFrames_self ht]
      rfl
    · show T.slotsUsed = T.slotsUsed + ((T.heap.toList.drop T.heap.size).map (·.slots.size)).sum
      rw [List.drop_eq_nil_of_le (Nat.le_of_eq Array.length_toList)]
      rfl
    · show ((T.heap.toList.drop T.heap.size).map (·.slots.size)).sum ≤ 0
      rw [List.drop_eq_nil_of_le (Nat.le_of_eq Array.length_toList)]
      exact Nat.le_refl _
/-- 'throw new E()': new; dup; invokespecial; athrow -/
theorem vx_throw0 {cc : ByteArray} {pc : Nat} (hexec : p.tables.exec = Jvm.exec) (hb : c.code = cc) (hl : l.stackTraces = false) {own cls : String} {names : List String} {ik ic mc ms : Nat} {A : Nat → Prop}
    (hown : s.vm.findClass own = some m.cls) (hcls : Bundle.fit cls = true) (hnames : ∀ n ∈ names, Bundle.fit n = true)
    (hk : (Cond.classLink own ik cls).before args s = true) (hini : (Cond.initialized cls).before args s = true) (hat : ∀ w ∈ vx_at0 own ic cls names, w.before args s = true)
    (hgood : ∀ w ∈ Cond.classLink own ik cls :: Cond.initialized cls :: vx_at0 own ic cls names, vx_ot w = true)
    (hU : vx_Zq Bundle.tN "UNASSIGNED_STACK" Bundle.steD A s s.heap) (hN : vx_Zq Bundle.tN "SUPPRESSED_SENTINEL" Bundle.listD A s s.heap) (hS : va_S A s.heap H locs) (hsize : ls.size = c.maxLocals)
    (d0 : decode cc pc = .ok (.new ik, 3)) (d3 : decode cc (pc + 3) = .ok (.dup, 1)) (d4 : decode cc (pc + 4) = .ok (.invokespecial ic, 3)) (d7 : decode cc (pc + 7) = .ok (.athrow, 1))
    (hout : ∀ x ∈ c.exceptionTable.toList, covers x (pc + 7) = false)
    (hRframes : names.length + 3 < R.frames) (hRlocals : (rest.map fun v => v.category).sum + (13 * (names.length + 1) + 42) ≤ R.locals) (hRcells : cells + 1 ≤ R.cells) (hRslots : slots + 6 ≤ R.slots) (hlocks : meth.locks = false)
    (hx : ∀ t : State, s.vm.Alike t.vm → H.size ≤ t.heap.size → (∀ q : Nat, q < H.size → t.heap[q]? = H[q]?) → XC cls s t)
    (hf : ∀ z ∈ locs, free z.base) (hc : cells + 1 ≤ mc) (hs : slots + 6 ≤ ms) :
    W p l e R s m args below meth c H locs cells slots (vx_MQ below Qc XC args s mc ms free) (F0 m pc ls rest) := by
  intro T hT X
  have htr : e.platform.stackTraces = false := (show e.platform.stackTraces = l.stackTraces by rw [X.admits.platform]).trans hl
  have Y := vx_rebase X (R' := { frames := R.frames, locals := R.locals, cells := 1, slots := 6 }) (Nat.le_refl _) (Nat.le_refl _) hRcells hRslots
  obtain ⟨s', hA⟩ : ∃ z, z = (T.setVm s.vm).setFrames (.invoking m args :: below) := ⟨_, rfl⟩
  rw [← hA] at Y
  have hvm : s'.vm = s.vm := by rw [hA]; rfl
  have hhp : s'.heap = H := by rw [hA]; exact hT
  have hW0 : s.WarmedH s'.vm := by rw [hvm]; exact State.WarmedH.refl s
  have hat' : ∀ w ∈ vx_at0 own ic cls names, w.before args s' = true := fun w hw => vx_ot_at hW0 hvm.symm (hgood w (List.mem_cons_of_mem _ (List.mem_cons_of_mem _ hw))) (hat w hw)
  have hk' : (Cond.classLink own ik cls).before args s' = true := vx_ot_at hW0 hvm.symm (hgood _ List.mem_cons_self) hk
  have hini' : (Cond.initialized cls).before args s' = true := vx_ot_at hW0 hvm.symm (hgood _ (List.mem_cons_of_mem _ List.mem_cons_self)) hini
  have hU' : vx_Zq Bundle.tN "UNASSIGNED_STACK" Bundle.steD A s' s'.heap := by rw [hhp]; exact vx_Zq.moved hW0.alike (hU.kept hS.2.1)
  have hN' : vx_Zq Bundle.tN "SUPPRESSED_SENTINEL" Bundle.listD A s' s'.heap := by rw [hhp]; exact vx_Zq.moved hW0.alike (hN.kept hS.2.1)
  have h : ∀ w ∈ Bundle.ownAtoms0 own ic cls names, w.before args s' = true := vx_own hat' (vx_isRefq hU'.1) (vx_isRefq hN'.1) hU'.2.word hN'.2.word
  have hown' : s'.vm.findClass own = some m.cls := by rw [hvm]; exact hown
  have hins : (Cond.instantiable cls 6).before args s' = true := h _ (by simp [Bundle.ownAtoms0])
  obtain ⟨vm₁, cX, kX, hfX, hkX, -, -, X₁, st1⟩ := Y.newCold hexec (own := own) (C := cls) (index := ik) (n := 6) hown' hk' hins hini'
    (g := F0 m pc ls rest) rfl (by rw [hb]; exact d0) (Nat.le_refl _) (Nat.le_refl _)
  generalize hT1 : (T.setVm vm₁).pushCell { cls := cX, slots := kX.instanceTypes.map defaultValue, vm := .none } = T1 at X₁ st1
  have hcat : (Value.ref T.heap.size).category = 1 := rfl
  have hcellA : T1.heap[T.heap.size]? = some (freshCell cX kX) := by rw [← hT1]; exact State.heap_pushCell_size _ _
  have d3' : decode c.code (pc + 3) = .ok (.dup, 1) := by rw [hb]; exact d3
  obtain ⟨U, hsteps, hrun, hend, hW, hsame, ce, hce, hO⟩ := X₁.ctorThrow0 hexec htr (own := own) (cls := cls) (names := names) (ic := ic) hown' hcls hnames h (fun x hx => nomatch hx) hfX hkX hcellA (by rw [hhp, hT]; exact Nat.le_refl _)
    (g := { method := m, pc := pc + 4, locals := ls, stack := .ref T.heap.size :: .ref T.heap.size :: rest, locked := none }) rfl hsize rfl rfl (rest := rest) rfl
    (by rw [hb]; exact d4) (by rw [hb]; exact d7) hout hRframes (by simp only [List.map_cons, List.sum_cons, hcat]; omega) hlocks
  obtain ⟨f1, f2⟩ := vx_frame hsame
  rw [hhp] at f1 f2
  have hWs : s.WarmedH U.vm := State.WarmedH.trans hW0 hW
  have hcl : s.vm.findClass cls = some ce.cls := by
    have h9 := hO.cls
    rw [hvm] at h9
    exact h9
  have hall : s.sameButNew ({ U with vm := s.vm } : State) locs mc ms := by
    subst hA
    obtain ⟨e1, e2⟩ := hsame
    rw [State.setFrames_setFrames] at e1
    have h2 : (T.setVm s.vm).sameButNew ({ U with vm := s.vm } : State) [] (0 + 1) (0 + 6) := ⟨e1, e2⟩
    have h3 := X.same.trans h2
    rw [List.append_nil] at h3
    exact h3.mono hc hs
  refine ⟨U, ?_, .threw T.heap.size, hrun, hend, Or.inr ⟨T.heap.size, rfl, cls, ce, locs, hx U hWs.alike f1 (fun q hq => f2 q hq (fun z hz => nomatch hz)), hce, hO.vm, hcl, hWs, hall, hf⟩⟩
  refine st1 _ ?_
  show Steps p.tables e below (T1.setTop { method := m, pc := pc + 3, locals := ls, stack := .ref T.heap.size :: rest, locked := none }) _
  jvm_step X₁.here [X₁.here.top, hexec, d3', Value.category]
  exact hsteps
/-- 'throw new E("text")': new; dup; ldc; invokespecial; athrow -/
theorem vx_throwS {cc : ByteArray} {pc : Nat} (hexec : p.tables.exec = Jvm.exec) (hb : c.code = cc) (hl : l.stackTraces = false) {own cls text : String} {names : List String} {ik is ic mc ms sa : Nat} {A : Nat → Prop}
    (hown : s.vm.findClass own = some m.cls) (hcls : Bundle.fit cls = true) (hnames : ∀ n ∈ names, Bundle.fit n = true)
    (hk : (Cond.classLink own ik cls).before args s = true) (hini : (Cond.initialized cls).before args s = true) (hstr : vk_R own is text sa s) (hat : ∀ w ∈ vx_atS own ic cls names, w.before args s = true)
    (hgood : ∀ w ∈ Cond.classLink own ik cls :: Cond.initialized cls :: vx_atS own ic cls names, vx_ot w = true)
    (hU : vx_Zq Bundle.tN "UNASSIGNED_STACK" Bundle.steD A s s.heap) (hN : vx_Zq Bundle.tN "SUPPRESSED_SENTINEL" Bundle.listD A s s.heap) (hS : va_S A s.heap H locs) (hsize : ls.size = c.maxLocals)
    (d0 : decode cc pc = .ok (.new ik, 3)) (d3 : decode cc (pc + 3) = .ok (.dup, 1)) (d4 : decode cc (pc + 4) = .ok (.ldc is, 2)) (d6 : decode cc (pc + 6) = .ok (.invokespecial ic, 3)) (d9 : decode cc (pc + 9) = .ok (.athrow, 1))
    (hout : ∀ x ∈ c.exceptionTable.toList, covers x (pc + 9) = false)
    (hRframes : names.length + 3 < R.frames) (hRlocals : (rest.map fun v => v.category).sum + (13 * (names.length + 1) + 43) ≤ R.locals) (hRcells : cells + 1 ≤ R.cells) (hRslots : slots + 6 ≤ R.slots) (hlocks : meth.locks = false)
    (hx : ∀ t : State, s.vm.Alike t.vm → H.size ≤ t.heap.size → (∀ q : Nat, q < H.size → t.heap[q]? = H[q]?) → XC cls s t)
    (hf : ∀ z ∈ locs, free z.base) (hc : cells + 1 ≤ mc) (hs : slots + 6 ≤ ms) :
    W p l e R s m args below meth c H locs cells slots (vx_MQ below Qc XC args s mc ms free) (F0 m pc ls rest) := by
  intro T hT X
  have htr : e.platform.stackTraces = false := (show e.platform.stackTraces = l.stackTraces by rw [X.admits.platform]).trans hl
  have Y := vx_rebase X (R' := { frames := R.frames, locals := R.locals, cells := 1, slots := 6 }) (Nat.le_refl _) (Nat.le_refl _) hRcells hRslots
  obtain ⟨s', hA⟩ : ∃ z, z = (T.setVm s.vm).setFrames (.invoking m args :: below) := ⟨_, rfl⟩
  rw [← hA] at Y
  have hvm : s'.vm = s.vm := by rw [hA]; rfl
  have hhp : s'.heap = H := by rw [hA]; exact hT
  have hW0 : s.WarmedH s'.vm := by rw [hvm]; exact State.WarmedH.refl s
  have hat' : ∀ w ∈ vx_atS own ic cls names, w.before args s' = true := fun w hw => vx_ot_at hW0 hvm.symm (hgood w (List.mem_cons_of_mem _ (List.mem_cons_of_mem _ hw))) (hat w hw)
  have hk' : (Cond.classLink own ik cls).before args s' = true := vx_ot_at hW0 hvm.symm (hgood _ List.mem_cons_self) hk
  have hini' : (Cond.initialized cls).before args s' = true := vx_ot_at hW0 hvm.symm (hgood _ (List.mem_cons_of_mem _ List.mem_cons_self)) hini
  have hU' : vx_Zq Bundle.tN "UNASSIGNED_STACK" Bundle.steD A s' s'.heap := by rw [hhp]; exact vx_Zq.moved hW0.alike (hU.kept hS.2.1)
  have hN' : vx_Zq Bundle.tN "SUPPRESSED_SENTINEL" Bundle.listD A s' s'.heap := by rw [hhp]; exact vx_Zq.moved hW0.alike (hN.kept hS.2.1)
  have h : ∀ w ∈ Bundle.ownAtoms own ic cls names, w.before args s' = true := vx_own hat' (vx_isRefq hU'.1) (vx_isRefq hN'.1) hU'.2.word hN'.2.word
  have hown' : s'.vm.findClass own = some m.cls := by rw [hvm]; exact hown
  have hins : (Cond.instantiable cls 6).before args s' = true := h _ (by simp [Bundle.ownAtoms])
  obtain ⟨vm₁, cX, kX, hfX, hkX, -, -, X₁, st1⟩ := Y.newCold hexec (own := own) (C := cls) (index := ik) (n := 6) hown' hk' hins hini'
    (g := F0 m pc ls rest) rfl (by rw [hb]; exact d0) (Nat.le_refl _) (Nat.le_refl _)
  generalize hT1 : (T.setVm vm₁).pushCell { cls := cX, slots := kX.instanceTypes.map defaultValue, vm := .none } = T1 at X₁ st1
  have hcat : (Value.ref T.heap.size).category = 1 := rfl
  have hcellA : T1.heap[T.heap.size]? = some (freshCell cX kX) := by rw [← hT1]; exact State.heap_pushCell_size _ _
  have d3' : decode c.code (pc + 3) = .ok (.dup, 1) := by rw [hb]; exact d3
  have d4' : decode c.code (pc + 4) = .ok (.ldc is, 2) := by rw [hb]; exact d4
  have hstr' : vk_R own is text sa s' := vk_R.warm hW0 hstr
  obtain ⟨U, hsteps, hrun, hend, hW, hsame, ce, hce, hO⟩ := X₁.ctorThrowS hexec htr (own := own) (cls := cls) (names := names) (ic := ic) hown' hcls hnames h (fun x hx => nomatch hx) hfX hkX hcellA (by rw [hhp, hT]; exact Nat.le_refl _) (msg := .ref sa) rfl
    (g := { method := m, pc := pc + 6, locals := ls, stack := .ref sa :: .ref T.heap.size :: .ref T.heap.size :: rest, locked := none }) rfl hsize rfl rfl (rest := rest) rfl
    (by rw [hb]; exact d6) (by rw [hb]; exact d9) hout hRframes (by simp only [List.map_cons, List.sum_cons, hcat]; omega) hlocks
  obtain ⟨f1, f2⟩ := vx_frame hsame
  rw [hhp] at f1 f2
  have hWs : s.WarmedH U.vm := State.WarmedH.trans hW0 hW
  have hcl : s.vm.findClass cls = some ce.cls := by
    have h9 := hO.cls
    rw [hvm] at h9
    exact h9
  have hall : s.sameButNew ({ U with vm := s.vm } : State) locs mc ms := by
    subst hA
    obtain ⟨e1, e2⟩ := hsame
    rw [State.setFrames_setFrames] at e1
    have h2 : (T.setVm s.vm).sameButNew ({ U with vm := s.vm } : State) [] (0 + 1) (0 + 6) := ⟨e1, e2⟩
    have h3 := X.same.trans h2
    rw [List.append_nil] at h3
    exact h3.mono hc hs
  refine ⟨U, ?_, .threw T.heap.size, hrun, hend, Or.inr ⟨T.heap.size, rfl, cls, ce, locs, hx U hWs.alike f1 (fun q hq => f2 q hq (fun z hz => nomatch hz)), hce, hO.vm, hcl, hWs, hall, hf⟩⟩
  refine st1 _ ?_
  show Steps p.tables e below (T1.setTop { method := m, pc := pc + 3, locals := ls, stack := .ref T.heap.size :: rest, locked := none }) _
  jvm_step X₁.here [X₁.here.top, hexec, d3', Value.category]
  exact X₁.ldcString hexec (own := own) (text := text) (index := is) (a := sa) hown' hstr'.1 hstr'.2
    (g := { method := m, pc := pc + 4, locals := ls, stack := .ref T.heap.size :: .ref T.heap.size :: rest, locked := none }) rfl d4' _ hsteps
/-- 'throw new E("text")', the text by a wide index -/
theorem vx_throwSW {cc : ByteArray} {pc : Nat} (hexec : p.tables.exec = Jvm.exec) (hb : c.code = cc) (hl : l.stackTraces = false) {own cls text : String} {names : List String} {ik is ic mc ms sa : Nat} {A : Nat → Prop}
    (hown : s.vm.findClass own = some m.cls) (hcls : Bundle.fit cls = true) (hnames : ∀ n ∈ names, Bundle.fit n = true)
    (hk : (Cond.classLink own ik cls).before args s = true) (hini : (Cond.initialized cls).before args s = true) (hstr : vk_R own is text sa s) (hat : ∀ w ∈ vx_atS own ic cls names, w.before args s = true)
    (hgood : ∀ w ∈ Cond.classLink own ik cls :: Cond.initialized cls :: vx_atS own ic cls names, vx_ot w = true)
    (hU : vx_Zq Bundle.tN "UNASSIGNED_STACK" Bundle.steD A s s.heap) (hN : vx_Zq Bundle.tN "SUPPRESSED_SENTINEL" Bundle.listD A s s.heap) (hS : va_S A s.heap H locs) (hsize : ls.size = c.maxLocals)
    (d0 : decode cc pc = .ok (.new ik, 3)) (d3 : decode cc (pc + 3) = .ok (.dup, 1)) (d4 : decode cc (pc + 4) = .ok (.ldc_w is, 3)) (d7 : decode cc (pc + 7) = .ok (.invokespecial ic, 3)) (d10 : decode cc (pc + 10) = .ok (.athrow, 1))
    (hout : ∀ x ∈ c.exceptionTable.toList, covers x (pc + 10) = false)
    (hRframes : names.length + 3 < R.frames) (hRlocals : (rest.map fun v => v.category).sum + (13 * (names.length + 1) + 43) ≤ R.locals) (hRcells : cells + 1 ≤ R.cells) (hRslots : slots + 6 ≤ R.slots) (hlocks : meth.locks = false)
    (hx : ∀ t : State, s.vm.Alike t.vm → H.size ≤ t.heap.size → (∀ q : Nat, q < H.size → t.heap[q]? = H[q]?) → XC cls s t)
    (hf : ∀ z ∈ locs, free z.base) (hc : cells + 1 ≤ mc) (hs : slots + 6 ≤ ms) :
    W p l e R s m args below meth c H locs cells slots (vx_MQ below Qc XC args s mc ms free) (F0 m pc ls rest) := by
  intro T hT X
  have htr : e.platform.stackTraces = false := (show e.platform.stackTraces = l.stackTraces by rw [X.admits.platform]).trans hl
  have Y := vx_rebase X (R' := { frames := R.frames, locals := R.locals, cells := 1, slots := 6 }) (Nat.le_refl _) (Nat.le_refl _) hRcells hRslots
  obtain ⟨s', hA⟩ : ∃ z, z = (T.setVm s.vm).setFrames (.invoking m args :: below) := ⟨_, rfl⟩
  rw [← hA] at Y
  have hvm : s'.vm = s.vm := by rw [hA]; rfl
  have hhp : s'.heap = H := by rw [hA]; exact hT
  have hW0 : s.WarmedH s'.vm := by rw [hvm]; exact State.WarmedH.refl s
  have hat' : ∀ w ∈ vx_atS own ic cls names, w.before args s' = true := fun w hw => vx_ot_at hW0 hvm.symm (hgood w (List.mem_cons_of_mem _ (List.mem_cons_of_mem _ hw))) (hat w hw)
  have hk' : (Cond.classLink own ik cls).before args s' = true := vx_ot_at hW0 hvm.symm (hgood _ List.mem_cons_self) hk
  have hini' : (Cond.initialized cls).before args s' = true := vx_ot_at hW0 hvm.symm (hgood _ (List.mem_cons_of_mem _ List.mem_cons_self)) hini
  have hU' : vx_Zq Bundle.tN "UNASSIGNED_STACK" Bundle.steD A s' s'.heap := by rw [hhp]; exact vx_Zq.moved hW0.alike (hU.kept hS.2.1)
  have hN' : vx_Zq Bundle.tN "SUPPRESSED_SENTINEL" Bundle.listD A s' s'.heap := by rw [hhp]; exact vx_Zq.moved hW0.alike (hN.kept hS.2.1)
  have h : ∀ w ∈ Bundle.ownAtoms own ic cls names, w.before args s' = true := vx_own hat' (vx_isRefq hU'.1) (vx_isRefq hN'.1) hU'.2.word hN'.2.word
  have hown' : s'.vm.findClass own = some m.cls := by rw [hvm]; exact hown
  have hins : (Cond.instantiable cls 6).before args s' = true := h _ (by simp [Bundle.ownAtoms])
  obtain ⟨vm₁, cX, kX, hfX, hkX, -, -, X₁, st1⟩ := Y.newCold hexec (own := own) (C := cls) (index := ik) (n := 6) hown' hk' hins hini'
    (g := F0 m pc ls rest) rfl (by rw [hb]; exact d0) (Nat.le_refl _) (Nat.le_refl _)
  generalize hT1 : (T.setVm vm₁).pushCell { cls := cX, slots := kX.instanceTypes.map defaultValue, vm := .none } = T1 at X₁ st1
  have hcat : (Value.ref T.heap.size).category = 1 := rfl
  have hcellA : T1.heap[T.heap.size]? = some (freshCell cX kX) := by rw [← hT1]; exact State.heap_pushCell_size _ _
  have d3' : decode c.code (pc + 3) = .ok (.dup, 1) := by rw [hb]; exact d3
  have d4' : decode c.code (pc + 4) = .ok (.ldc_w is, 3) := by rw [hb]; exact d4
  have hstr' : vk_R own is text sa s' := vk_R.warm hW0 hstr
  obtain ⟨U, hsteps, hrun, hend, hW, hsame, ce, hce, hO⟩ := X₁.ctorThrowS hexec htr (own := own) (cls := cls) (names := names) (ic := ic) hown' hcls hnames h (fun x hx => nomatch hx) hfX hkX hcellA (by rw [hhp, hT]; exact Nat.le_refl _) (msg := .ref sa) rfl
    (g := { method := m, pc := pc + 7, locals := ls, stack := .ref sa :: .ref T.heap.size :: .ref T.heap.size :: rest, locked := none }) rfl hsize rfl rfl (rest := rest) rfl
    (by rw [hb]; exact d7) (by rw [hb]; exact d10) hout hRframes (by simp only [List.map_cons, List.sum_cons, hcat]; omega) hlocks
  obtain ⟨f1, f2⟩ := vx_frame hsame
  rw [hhp] at f1 f2
  have hWs : s.WarmedH U.vm := State.WarmedH.trans hW0 hW
  have hcl : s.vm.findClass cls = some ce.cls := by
    have h9 := hO.cls
    rw [hvm] at h9
    exact h9
  have hall : s.sameButNew ({ U with vm := s.vm } : State) locs mc ms := by
    subst hA
    obtain ⟨e1, e2⟩ := hsame
    rw [State.setFrames_setFrames] at e1
    have h2 : (T.setVm s.vm).sameButNew ({ U with vm := s.vm } : State) [] (0 + 1) (0 + 6) := ⟨e1, e2⟩
    have h3 := X.same.trans h2
    rw [List.append_nil] at h3
    exact h3.mono hc hs
  refine ⟨U, ?_, .threw T.heap.size, hrun, hend, Or.inr ⟨T.heap.size, rfl, cls, ce, locs, hx U hWs.alike f1 (fun q hq => f2 q hq (fun z hz => nomatch hz)), hce, hO.vm, hcl, hWs, hall, hf⟩⟩
  refine st1 _ ?_
  show Steps p.tables e below (T1.setTop { method := m, pc := pc + 3, locals := ls, stack := .ref T.heap.size :: rest, locked := none }) _
  jvm_step X₁.here [X₁.here.top, hexec, d3', Value.category]
  exact X₁.ldcStringW hexec (own := own) (text := text) (index := is) (a := sa) hown' hstr'.1 hstr'.2
    (g := { method := m, pc := pc + 4, locals := ls, stack := .ref T.heap.size :: .ref T.heap.size :: rest, locked := none }) rfl d4' _ hsteps
end Ends
section Bodies
variable {l : Launch}
theorem vx_ofW {y : MethodName} {ws ws' : List Cond} {rm : Room} {Pc : Array Value → State → Prop} {Qc : Array Value → State → Outcome → State → Prop} {XC : String → State → State → Prop} {mc ms : Nat} {free : Addr → Prop} {cc : ByteArray} {maxL : Nat} {ret : Option FieldType}
    (hy : plainName y.cls = true) (hw : ws = Cond.code y cc maxL ret :: ws')
    (body : ∀ p e s m args below meth c s₁, BodyLoose p l y (headSpec ws rm) cc maxL ret e s m args below meth c s₁ → c.maxLocals = maxL → (∀ x ∈ c.exceptionTable.toList, False) → Pc args s →
      W p l e (headSpec ws rm).room s m args below meth c s.heap [] 0 0 (vx_MQ below Qc XC args s mc ms free) (entryFrame m args maxL)) : vx_Met l y ws rm Pc Qc XC mc ms free := by
  refine MetFree.of_bodyS (code := cc) (maxLocals := maxL) (ret := ret) hy ?_ ?_
  · intro args s m h hn
    obtain ⟨meth, c, h1, h2, h3, h4, h5, h6, -, -⟩ := Cond.code_spec hn (atoms_spec (ws := ws) h _ (by rw [hw]; exact List.mem_cons_self))
    exact ⟨meth, c, h1, h2, h3, h4, h5, h6⟩
  · intro p e s m args below meth c s₁ B hml hP _
    have hh0 : s₁.heap = s.heap := by rw [B.state]; rfl
    have ht : ∀ x ∈ c.exceptionTable.toList, False := by
      obtain ⟨meth9, c9, h1, h2, -, -, -, -, h7, -⟩ := Cond.code_spec B.named (atoms_spec (ws := ws) B.pre _ (by rw [hw]; exact List.mem_cons_self))
      cases Option.some.inj (h1.symm.trans B.method)
      cases Option.some.inj (h2.symm.trans (Stand.of_body B).code)
      intro x hx
      rw [Array.isEmpty_iff.mp h7] at hx
      cases hx
    obtain ⟨t, a1, o, b1, b2, b3⟩ := body p e s m args below meth c s₁ B hml ht hP s₁ hh0 (Stand.of_body B)
    exact ⟨t, o, a1, b1, b2, b3⟩
/-- the table of a body with handlers -/
theorem vx_table {p : Program} {x y : MethodName} {S : Spec} {cc bytes : ByteArray} {maxL maxL' : Nat} {ret ret' : Option FieldType} {e : Env} {s s₁ : State} {m : MethodId} {args : Array Value} {below : List Frame} {meth : Method} {c : Code} {hh : List (Nat × Nat × Nat × Nat)}
    (B : BodyLoose p l y S cc maxL ret e s m args below meth c s₁) (h : (Cond.codeWith y bytes maxL' ret' hh).before args s = true) : c.exceptionTable.toList = tableOf hh := by
  obtain ⟨m9, meth9, c9, hn9, h1, h2, -, -, h6, -⟩ := Cond.codeWith_spec h
  cases Option.some.inj (hn9.symm.trans B.named)
  cases Option.some.inj (h1.symm.trans B.method)
  cases Option.some.inj (h2.symm.trans (Stand.of_body B).code)
  rw [← h6, table_eq]
end Bodies
end VXA
/-! ===== END ===== -/
/-! ===== BEGIN a static call of a method with an exception table ===== -/
section VXS
variable {p : Program} {l : Launch} {e : Env} {R : Room} {s : State} {m : MethodId} {args : Array Value} {below : List Frame} {meth : Method} {c : Code} {T : State} {H : Heap} {locs : List Loc} {cells slots : Nat}
abbrev vx_CSW (R : Room) (s : State) (args : Array Value) (own : String) (index : Nat) (y : MethodName) (bytes : ByteArray) (maxL : Nat) (ret : Option FieldType) (hh : List (Nat × Nat × Nat × Nat)) (ws : List Cond) (rm : Room) (mc ms n : Nat) : Prop :=
  (rm.cells = mc ∧ rm.slots = ms ∧ rm.frames + 1 ≤ R.frames ∧ 8 + (maxL + 11) + rm.locals ≤ R.locals ∧ (∀ w ∈ ws, ∀ (a' : Array Value) (U : State), s.WarmedH U.vm → w.before a' U = true) ∧ Cond.codeWith y bytes maxL ret hh ∈ ws) ∧
  (Cond.codeWith y bytes maxL ret hh).before args s = true ∧ (Cond.initialized y.cls).before args s = true ∧ (y.cls ≠ "java/lang/invoke/MethodHandle" ∧ y.cls ≠ "java/lang/invoke/VarHandle") ∧
  (∀ sig, parseMethodDescriptor y.desc = some sig → n = sig.parameters.length) ∧ (Cond.methodLink own index y).before args s = true ∧ (Cond.static y).before args s = true
theorem vx_cwSW {own : String} {index maxL mc ms : Nat} {y : MethodName} {bytes : ByteArray} {ret : Option FieldType} {hh : List (Nat × Nat × Nat × Nat)} {Ts ws ws' : List Cond} {rm : Room} (n : Nat) (ht : ∀ w ∈ Ts, w.before args s = true) (hT : GoodIn Ts (va_wsS own index y ws)) (hw : ws = Cond.codeWith y bytes maxL ret hh :: ws') (hrc : rm.cells = mc) (hrs : rm.slots = ms)
    (hd : y.cls ≠ "java/lang/invoke/MethodHandle" ∧ y.cls ≠ "java/lang/invoke/VarHandle" ∧ (parseMethodDescriptor y.desc).map (fun d => d.parameters.length) = some n) (hR : rm.frames + 1 ≤ R.frames ∧ 8 + (maxL + 11) + rm.locals ≤ R.locals) :
    vx_CSW R s args own index y bytes maxL ret hh ws rm mc ms n := by
  have ok : ∀ w ∈ va_wsS own index y ws, w.before args s = true := fun w h => ht w (hT w h).1
  have hG : GoodIn Ts ws := fun w h => hT w (by unfold va_wsS; exact List.mem_append_right _ h)
  have hc : Cond.codeWith y bytes maxL ret hh ∈ ws := by rw [hw]; exact List.mem_cons_self
  refine ⟨⟨hrc, hrs, hR.1, hR.2, pay_in ht hG, hc⟩, ht _ (hG _ hc).1, ok _ (by simp [va_wsS]), ⟨hd.1, hd.2.1⟩, fun sig h => ?_, ok _ (by simp [va_wsS]), ok _ (by simp [va_wsS])⟩
  have h2 := hd.2.2
  rw [h] at h2
  exact (Option.some.inj h2).symm
theorem vx_callSW (X : Stand p l e R s m args below meth c T locs cells slots) (hexec : p.tables.exec = Jvm.exec) {own : String} {index : Nat} {y : MethodName} {bytes : ByteArray} {maxL : Nat} {ret : Option FieldType} {hh : List (Nat × Nat × Nat × Nat)}
    (hown : s.vm.findClass own = some m.cls) (hlink : (Cond.methodLink own index y).before args s = true) (hstat : (Cond.static y).before args s = true) (hinit : (Cond.initialized y.cls).before args s = true)
    (hcode : (Cond.codeWith y bytes maxL ret hh).before args s = true) (hy : y.cls ≠ "java/lang/invoke/MethodHandle" ∧ y.cls ≠ "java/lang/invoke/VarHandle")
    {W9 : Nat} {Pre : Pt → Array Value → Prop} {Post : Pt → Array Value → Option Value → Pt → Prop} (hK : Back l R p e below s args y 3 W9 Pre Post)
    {g : JFrame} (hg : g.method = m) (hsize : g.locals.size = c.maxLocals) {argsL rest : List Value} (hlen : ∀ sig, parseMethodDescriptor y.desc = some sig → argsL.length = sig.parameters.length)
    (hstack : g.stack = argsL.reverse ++ rest) (hW : 2 * g.monitorRoom + (rest.map fun v => v.category).sum ≤ W9) (hdg : decode c.code g.pc = .ok (.invokestatic index, 3))
    (hpre : ∀ vm₁, s.WarmedH vm₁ → Pre ⟨T.setVm vm₁, locs, cells, slots⟩ argsL.toArray) :
    ∃ (v : Option Value) (vm₁ : Vm) (B : Pt), s.WarmedH vm₁ ∧ Stand p l e R s m args below meth c B.U B.locs B.cells B.slots ∧ Post ⟨T.setVm vm₁, locs, cells, slots⟩ argsL.toArray v B ∧
      ∀ target, Steps p.tables e below (B.U.setTop { g with pc := g.pc + 3, stack := v.toList ++ rest }) target → Steps p.tables e below (T.setTop g) target := by
  obtain ⟨mk, methM, cM, hnamed, hmethM, -, -, -, -, -, -, hsigM⟩ := Cond.codeWith_spec hcode
  have hstatic : methM.isStatic = true := Cond.static_spec hnamed hmethM hstat
  obtain ⟨kP, hkP, -⟩ := className_of_methodNamed hnamed
  have hinitP : kP.init = .initialized := Cond.initialized_spec (findClass_of_methodNamed hnamed) hkP hinit
  obtain ⟨vm₁, X₁, hstep₁⟩ := X.invokestatic hexec hown hlink hnamed hmethM hstatic hkP hinitP hy (g := g) hg (argsL := argsL) (rest := rest) (hlen _ hsigM) hstack hdg
  obtain ⟨v, B, X', hpost, hsteps⟩ := hK m meth c ⟨T.setVm vm₁, locs, cells, slots⟩ { g with stack := rest } (.invokestatic index) mk argsL.toArray X₁ hg hsize hdg hW (X₁.named hnamed) (hpre vm₁ X₁.warmed)
  exact ⟨v, vm₁, B, X₁.warmed, X', hpost, fun target h => hstep₁ _ fun acts => by rw [doInvoke_state]; exact hsteps.trans h⟩
theorem vx_runSW {y : MethodName} {bytes cc : ByteArray} {maxL nL mc ms n index : Nat} {ret : Option FieldType} {hh : List (Nat × Nat × Nat × Nat)} {ws : List Cond} {rm : Room} {Pc : Array Value → State → Prop} {Qc : Array Value → State → Outcome → State → Prop} {free : Addr → Prop} {Ts : List Cond} {own : String} {As rest : List Value} {g : JFrame}
    (S : CallFix p m c cc nL s args Ts own) (hM : Met l y ws rm Pc Qc mc ms free) (cw : vx_CSW R s args own index y bytes maxL ret hh ws rm mc ms n) (hp : PreS s H Pc As)
    (hg : g.method = m) (hn : As.length = n) (hsize : g.locals.size = nL) (hstack : g.stack = As.reverse ++ rest) (hW : 2 * g.monitorRoom + (rest.map fun v => v.category).sum ≤ 8) (hdg : decode cc g.pc = .ok (.invokestatic index, 3)) (hf : cells + mc ≤ R.cells ∧ slots + ms ≤ R.slots) :
    va_Run p l e R s m args below meth c H locs cells slots mc ms g rest (Qc As.toArray) (free) := by
  obtain ⟨⟨hrc, hrs, hfr, hlo, hws, hcw⟩, hcode, hini, hy, hlen, hl, hstt⟩ := cw
  have hK : Back l R p e below s args y 3 8 (PreOf R mc ms Pc) (PostOf Qc mc ms free) := va_backW (hh := hh) (bytes := bytes) (maxL := maxL) (ret := ret) hM hp.1 hrc hrs hfr hlo hws hcw (fun a' U hW => word_at hW (Or.inl (by first | rfl | simp [Cond.onTables, Cond.keeps, Cond.steady])) hini)
  obtain ⟨hx, hb, hml, ho, -⟩ := S
  intro T hT X
  obtain ⟨v, vm₁, ⟨U', l2, c2, s2⟩, hW₁, X', ⟨g', mk, t, L, e1, e2, hq, h1, hL, h2, h3⟩, st⟩ := vx_callSW X hx (hh := hh) (bytes := bytes) (maxL := maxL) (ret := ret) ho hl hstt hini hcode hy hK hg (hsize.trans hml.symm) (argsL := As) (rest := rest) (fun sig h => hn.trans (hlen sig h)) hstack hW (by rw [hb]; exact hdg)
    (fun vm₁ hW₁ => ⟨hf.1, hf.2, hp.2 (T.setVm vm₁) hT hW₁⟩)
  dsimp only [Pt.U, Pt.locs, Pt.cells, Pt.slots] at X' e1 e2 h1 h2 h3 st
  subst h1; subst h2; subst h3
  exact ⟨v, (T.setVm vm₁).calling g' mk As.toArray, t, U', L, hT, X', hL, e1, e2, hq, st⟩
/-- not caught here, past rows that name other classes: it goes on to the caller -/
theorem vx_outP {p : Program} {l : Launch} {e : Env} {R : Room} {s : State} {m : MethodId} {args : Array Value} {below : List Frame} {meth : Method} {c : Code} {H : Heap} {locs : List Loc} {cells slots : Nat} {free : Addr → Prop} {ls : Array Slot} {rest : List Value} {Qc : Array Value → State → Outcome → State → Prop} {XC : String → State → State → Prop}
    {pc : Nat} {own E : String} {ce : Cell} {q : Addr} {mc ms : Nat} (hown : s.vm.findClass own = some m.cls) (hlocks : meth.locks = false)
    (hpass : ∀ z ∈ c.exceptionTable.toList, covers z pc = false ∨ (z.catchType ≠ 0 ∧ ∃ nm : String, (Cond.classLink own z.catchType nm).before args s = true ∧ va_Nc E nm s)) (hcell : H[q]? = some ce) (hv : ce.vm = .none) (hcl : s.vm.findClass E = some ce.cls)
    (hx : ∀ t : State, t.heap = H → s.vm.Alike t.vm → XC E s t) (hf : ∀ z ∈ locs, free z.base) (hc : cells ≤ mc) (hs : slots ≤ ms) :
    vx_W p l e R s m args below meth c H locs cells slots (vx_MQ below Qc XC args s mc ms free) (F0 m pc ls rest) q := by
  intro T hT X
  have hpl : e.platform.magicAccessors = ({} : Platform).magicAccessors := by rw [X.admits.platform]
  obtain ⟨vm', hW', X', st⟩ := X.outThrough hlocks q (g := F0 m pc ls rest) rfl rfl rfl (cell := ce) (by rw [hT]; exact hcell) (by rw [hv]; rfl)
    (by obtain ⟨k9, h9, -⟩ := Vm.findClass_spec hcl; exact ⟨k9, h9⟩) (fun z hz => by
      rcases hpass z hz with h | ⟨hz0, nm, hl1, hn1⟩
      · exact Or.inl h
      · obtain ⟨c6, hc6, hcl6⟩ := Cond.classLink_spec hown hl1 e.platform hpl
        obtain ⟨a8, b8, h1, h2, h3⟩ := hn1
        cases Option.some.inj (h1.symm.trans hcl)
        cases Option.some.inj (h2.symm.trans hc6)
        exact Or.inr ⟨hz0, _, hcl6, h3⟩)
  obtain ⟨g₀, hfr⟩ := X'.frames_eq
  have hcell9 : ((T.setVm vm').setFrames (.throwing q :: below)).heap[q]? = some ce := by
    show T.heap[q]? = some ce
    rw [hT]; exact hcell
  have hend : Ended ((T.setVm vm').setFrames (.throwing q :: below)) below (.threw q) := State.frames_setFrames _ (State.cur_lt_of_frames hfr)
  refine ⟨(T.setVm vm').setFrames (.throwing q :: below), ?_, .threw q, X'.here.running, hend, Or.inr ⟨q, rfl, E, ce, locs, hx _ hT (X'.ends _).1.alike, hcell9, hv, hcl, (X'.ends _).1, (X'.ends _).2.mono hc hs, hf⟩⟩
  rw [X.pushThrowing_eq]
  exact st
/-- a thing of a world lies in the heap -/
theorem vx_lt {D : va_G} {cl : List vw_C} {ws : va_W} {H1 : Heap} (h : va_P D cl ws H1) {k : Nat} {q : Nat × va_E} (hk : ws[k]? = some q) : q.1 < H1.size := (h k q hk).lt
end VXS
/-! ===== END ===== -/
/-! ===== BEGIN methods with a table of their own: called by a name, returning or throwing ===== -/
section VXH
/-! vx_backW, vx_callVX, vx_callSX, vx_callVW, vx_runVW, vx_runVX, vx_runSX, vx_ofWH follow the same proofs as their sisters above (Free/Laws.lean, Shelf42/LK1.lean); vx_outP calls Shelf42/NT130.lean (outThrough). -/
section
variable {l : Launch} {R : Room} {p : Program} {e : Env} {below : List Frame} {s : State} {sargs : Array Value} {y : MethodName} {len W9 : Nat}
theorem vx_backW {ws : List Cond} {rm : Room} {Pc : Array Value → State → Prop} {Qc : Array Value → State → Outcome → State → Prop} {XC : String → State → State → Prop} {mc ms : Nat} {free : Addr → Prop} {bytes : ByteArray} {maxL : Nat} {ret : Option FieldType} {hh : List (Nat × Nat × Nat × Nat)}
    (hM : vx_Met l y ws rm Pc Qc XC mc ms free) (hblind : FrameBlind Pc) (hrc : rm.cells = mc) (hrs : rm.slots = ms)
    (hframes : rm.frames + 1 ≤ R.frames) (hlocals : W9 + (maxL + 11) + rm.locals ≤ R.locals)
    (hws : ∀ w ∈ ws, ∀ a' U, s.WarmedH U.vm → w.before a' U = true) (hcode : Cond.codeWith y bytes maxL ret hh ∈ ws) (hinit : ∀ a' U, s.WarmedH U.vm → (Cond.initialized y.cls).before a' U = true) :
    vx_Back l R p e below s sargs y len W9 (PreOf R mc ms Pc) (PostOf Qc mc ms free) (vx_Post XC mc ms free) := by
  intro m meth c A g ig mk a X hg hsize hdg hW hn hp
  have h1 : (headSpec ws rm).pre.before a A.U = true := atoms_intro fun w hw => hws w hw _ _ X.warmed
  have h2 : (Cond.codeWith y bytes maxL ret hh).before a A.U = true := hws _ hcode _ _ X.warmed
  have h3 : (Cond.initialized y.cls).before a A.U = true := hinit _ _ X.warmed
  have h4 : A.cells + (headSpec ws rm).room.cells ≤ R.cells := by rw [show (headSpec ws rm).room.cells = mc from hrc]; exact hp.1
  have h5 : A.slots + (headSpec ws rm).room.slots ≤ R.slots := by rw [show (headSpec ws rm).room.slots = ms from hrs]; exact hp.2.1
  have hPc : Pc a (A.U.calling g mk a) := hblind _ _ _ _ hp.2.2
  obtain ⟨U, Ls, c0, s0⟩ := A
  dsimp only [Pt.U, Pt.locs, Pt.cells, Pt.slots] at h1 h2 h3 h4 h5 X hn hPc ⊢
  obtain ⟨m9, methY, cY, hn9, hmY, hcY, -, hlY, -⟩ := Cond.codeWith_spec h2
  cases Option.some.inj (hn9.symm.trans hn)
  obtain ⟨kY, hkY, -⟩ := className_of_methodNamed hn
  have hinitY : kY.init = .initialized := Cond.initialized_spec (findClass_of_methodNamed hn) hkY h3
  have h : At U g.method c below := by rw [hg]; exact X.here
  have hlocals9 : W9 + (maxL + 11) + (headSpec ws rm).room.locals ≤ R.locals := hlocals
  have happ : (headSpec ws rm).appliesLoose y e.platform (U.calling g mk a) = true :=
    Spec.appliesLoose_calling (g := g) h hdg hn hkY hinitY
      (X.room_calling (g := g) (R' := (headSpec ws rm).room) hsize hmY hcY hframes (by rw [hlY]; omega) h4 h5) h1
  obtain ⟨mid, hmid⟩ := h.above
  have hfr : (U.setTop g).frames = (.java g :: mid) ++ below := by rw [State.frames_setTop' g h.top, hmid]; rfl
  obtain ⟨o, s₂, hsteps, -, hend, hq⟩ := Steps.callFree hM p X.admits X.cas X.clock (acts := []) hfr happ hPc trivial
  have hq' : vx_Q Qc XC mc ms free a (U.calling g mk a) o s₂ := hq
  rw [State.frames_setTop' g h.top] at hend
  obtain ⟨g₀, hg0⟩ := Option.isSome_iff_exists.mp h.top
  obtain ⟨r, hr⟩ := State.topJava?_eq_some.mp hg0
  have hr' : (({ U with heap := s₂.heap, slotsUsed := s₂.slotsUsed } : State).setVm s₂.vm).frames = .java g₀ :: r := hr
  rcases hq' with ⟨hqc, L, hfe, hL⟩ | ⟨q, rfl, E, ce, L, hx, hce, hcv, hcl, hW₂, hsm, hL⟩
  · obtain ⟨⟨v, rfl⟩, hW₂, e2, q2, q3, q4, q5, q6⟩ := id hfe
    have e3 : s₂ = ({ (U.calling g mk a).setFrames s₂.frames with heap := s₂.heap, slotsUsed := s₂.slotsUsed } : State).setVm s₂.vm := by
      have : s₂ = ({ s₂ with vm := (U.calling g mk a).vm } : State).setVm s₂.vm := rfl
      rw [e2] at this
      exact this
    obtain ⟨c₂, i₂, len₂, hc₂, hd₂, hf₂⟩ := hend
    have hW' : U.WarmedH s₂.vm := hW₂
    have hcc : c₂ = c := by
      have h1 : s₂.code? g.method = U.code? g.method := by
        rw [State.code?_eq, State.code?_eq, hW'.alike.method?]
      exact Option.some.inj (hc₂.symm.trans (h1.trans h.code))
    subst hcc
    have hlen : len₂ = len := by rw [hdg] at hd₂; cases hd₂; rfl
    subst hlen
    have hs₂ : s₂ = (({ U with heap := s₂.heap, slotsUsed := s₂.slotsUsed } : State).setVm s₂.vm).setTop { g with pc := g.pc + len₂, stack := v.toList ++ g.stack } := by
      refine e3.trans ?_
      rw [hf₂, State.calling_eq h.top, State.setFrames_setFrames, State.setTop_of_frames _ hr', hr]
      rfl
    have hsame : U.sameButNew ({ U with heap := s₂.heap, slotsUsed := s₂.slotsUsed } : State) L mc ms := by
      refine ⟨?_, q2, q3, q4, q5, q6⟩
      obtain ⟨t, ht, -⟩ := State.frames_cons hr
      show ({ U with heap := s₂.heap, slotsUsed := s₂.slotsUsed } : State) = { U.setFrames U.frames with heap := s₂.heap, slotsUsed := s₂.slotsUsed }
      rw [State.setFrames_self ht]
    subst hg
    refine Or.inl ⟨v, ⟨(({ U with heap := s₂.heap, slotsUsed := s₂.slotsUsed } : State).setVm s₂.vm), Ls ++ L, c0 + mc, s0 + ms⟩,
      ⟨X.admits, X.cas, X.clock, X.frames, X.room, X.hears, X.method, X.code, (X.here.setHeapUsed s₂.heap s₂.slotsUsed).setVm hW'.alike, X.tail, State.WarmedH.trans X.warmed hW', X.limits, X.bytes, X.same.trans (hsame.setVm s.vm)⟩,
      ⟨g, mk, s₂, L, rfl, rfl, hqc, rfl, hL, rfl, rfl⟩, ?_⟩
    show Steps p.tables e below _ ((({ U with heap := s₂.heap, slotsUsed := s₂.slotsUsed } : State).setVm s₂.vm).setTop { g with pc := g.pc + len₂, stack := v.toList ++ g.stack })
    rw [← hs₂]
    exact hsteps
  · obtain ⟨e2, q2, q3, q4, q5, q6⟩ := id hsm
    have e3 : s₂ = ({ (U.calling g mk a).setFrames s₂.frames with heap := s₂.heap, slotsUsed := s₂.slotsUsed } : State).setVm s₂.vm := by
      have : s₂ = ({ s₂ with vm := (U.calling g mk a).vm } : State).setVm s₂.vm := rfl
      rw [e2] at this
      exact this
    have hf₂ : s₂.frames = .throwing q :: .java g :: U.frames.tail := hend
    have hW' : U.WarmedH s₂.vm := hW₂
    have hs₂ : s₂ = ((({ U with heap := s₂.heap, slotsUsed := s₂.slotsUsed } : State).setVm s₂.vm).setTop g).pushFrame (.throwing q) := by
      refine e3.trans ?_
      rw [hf₂, State.calling_eq h.top, State.setFrames_setFrames, State.pushFrame, State.frames_setTop _ hr', State.setTop_of_frames _ hr', State.setFrames_setFrames, hr]
      rfl
    have hsame : U.sameButNew ({ U with heap := s₂.heap, slotsUsed := s₂.slotsUsed } : State) L mc ms := by
      refine ⟨?_, q2, q3, q4, q5, q6⟩
      obtain ⟨t, ht, -⟩ := State.frames_cons hr
      show ({ U with heap := s₂.heap, slotsUsed := s₂.slotsUsed } : State) = { U.setFrames U.frames with heap := s₂.heap, slotsUsed := s₂.slotsUsed }
      rw [State.setFrames_self ht]
    subst hg
    refine Or.inr ⟨q, ⟨(({ U with heap := s₂.heap, slotsUsed := s₂.slotsUsed } : State).setVm s₂.vm), Ls ++ L, c0 + mc, s0 + ms⟩,
      ⟨X.admits, X.cas, X.clock, X.frames, X.room, X.hears, X.method, X.code, (X.here.setHeapUsed s₂.heap s₂.slotsUsed).setVm hW'.alike, X.tail, State.WarmedH.trans X.warmed hW', X.limits, X.bytes, X.same.trans (hsame.setVm s.vm)⟩,
      ⟨g, mk, s₂, L, E, ce, rfl, rfl, hx, hce, hcv, hcl, rfl, hL, rfl, rfl⟩, ?_⟩
    show Steps p.tables e below _ (((({ U with heap := s₂.heap, slotsUsed := s₂.slotsUsed } : State).setVm s₂.vm).setTop g).pushFrame (.throwing q))
    rw [← hs₂]
    exact hsteps
end
variable {p : Program} {l : Launch} {e : Env} {R : Room} {s : State} {m : MethodId} {args : Array Value} {below : List Frame} {meth : Method} {c : Code} {T : State} {H : Heap} {locs : List Loc} {cells slots : Nat}
theorem vx_callVX (X : Stand p l e R s m args below meth c T locs cells slots) (hexec : p.tables.exec = Jvm.exec) {own C : String} {index : Nat} {y : MethodName} {bytes : ByteArray} {maxL : Nat} {ret : Option FieldType} {hh : List (Nat × Nat × Nat × Nat)}
    (hown : s.vm.findClass own = some m.cls) (hlink : (Cond.methodLink own index y).before args s = true) (hinst : (Cond.instanceMethod y).before args s = true) (hsel : (Cond.selects C y y).before args s = true)
    (hcode : (Cond.codeWith y bytes maxL ret hh).before args s = true) (hy : y.cls ≠ "java/lang/invoke/MethodHandle" ∧ y.cls ≠ "java/lang/invoke/VarHandle")
    {W9 : Nat} {Pre : Pt → Array Value → Prop} {Post : Pt → Array Value → Option Value → Pt → Prop} {PostX : Pt → Array Value → Addr → Pt → Prop} (hK : vx_Back l R p e below s args y 3 W9 Pre Post PostX)
    {b : Addr} {cellB : Cell} (hcell : T.heap[b]? = some cellB) (hobj : cellB.vm.isStatics = false) (hcls : s.vm.findClass C = some cellB.cls)
    {g : JFrame} (hg : g.method = m) (hsize : g.locals.size = c.maxLocals) {argsL rest : List Value} (hlen : ∀ sig, parseMethodDescriptor y.desc = some sig → argsL.length = sig.parameters.length)
    (hstack : g.stack = argsL.reverse ++ .ref b :: rest) (hW : 2 * g.monitorRoom + (rest.map fun v => v.category).sum ≤ W9) (hdg : decode c.code g.pc = .ok (.invokevirtual index, 3))
    (hpre : ∀ vm₁, s.WarmedH vm₁ → Pre ⟨T.setVm vm₁, locs, cells, slots⟩ (Value.ref b :: argsL).toArray) :
    (∃ (v : Option Value) (vm₁ : Vm) (B : Pt), s.WarmedH vm₁ ∧ Stand p l e R s m args below meth c B.U B.locs B.cells B.slots ∧ Post ⟨T.setVm vm₁, locs, cells, slots⟩ (Value.ref b :: argsL).toArray v B ∧
      ∀ target, Steps p.tables e below (B.U.setTop { g with pc := g.pc + 3, stack := v.toList ++ rest }) target → Steps p.tables e below (T.setTop g) target) ∨
    (∃ (q : Addr) (vm₁ : Vm) (B : Pt), s.WarmedH vm₁ ∧ Stand p l e R s m args below meth c B.U B.locs B.cells B.slots ∧ PostX ⟨T.setVm vm₁, locs, cells, slots⟩ (Value.ref b :: argsL).toArray q B ∧
      Steps p.tables e below (T.setTop g) ((B.U.setTop { g with stack := rest }).pushFrame (.throwing q))) := by
  obtain ⟨mk, methM, hnamed, hmethM, hstM, habM⟩ := Cond.instanceMethod_spec hinst
  obtain ⟨m8, methM', cM, hn8, hmethM', -, -, -, -, -, -, hsigM⟩ := Cond.codeWith_spec hcode
  cases Option.some.inj (hn8.symm.trans hnamed)
  cases hmethM.symm.trans hmethM'
  obtain ⟨c2, r2, m2, q1, q2, q3, q4, kP, hkP, hkPi⟩ := Cond.selects_spec hsel
  cases hcls.symm.trans q1
  cases (State.methodFound?_of_named hnamed hy).symm.trans q2
  cases hnamed.symm.trans q3
  have hselP : selectMethod e.platform s.vm cellB.cls mk = .method mk := by rw [Launch.admits_selectMethod X.admits]; exact q4
  obtain ⟨vm₁, X₁, hstep₁⟩ := X.invokevirtual hexec hown hlink hnamed hmethM hstM hkP hkPi hy (a := b) (cell := cellB) hcell
    (fun z h => by rw [h] at hobj; cases hobj) hselP hmethM habM hkP hkPi (g := g) hg (argsL := argsL) (rest := rest) (hlen _ hsigM) hstack hdg
  rcases hK m meth c ⟨T.setVm vm₁, locs, cells, slots⟩ { g with stack := rest } (.invokevirtual index) mk (Value.ref b :: argsL).toArray X₁ hg hsize hdg hW (X₁.named hnamed) (hpre vm₁ X₁.warmed) with ⟨v, B, X', hpost, hsteps⟩ | ⟨q, B, X', hpost, hsteps⟩
  · exact Or.inl ⟨v, vm₁, B, X₁.warmed, X', hpost, fun target h => hstep₁ _ fun acts => by rw [doInvoke_state]; exact hsteps.trans h⟩
  · exact Or.inr ⟨q, vm₁, B, X₁.warmed, X', hpost, hstep₁ _ fun acts => by rw [doInvoke_state]; exact hsteps⟩
theorem vx_callSX (X : Stand p l e R s m args below meth c T locs cells slots) (hexec : p.tables.exec = Jvm.exec) {own : String} {index : Nat} {y : MethodName} {bytes : ByteArray} {maxL : Nat} {ret : Option FieldType} {hh : List (Nat × Nat × Nat × Nat)}
    (hown : s.vm.findClass own = some m.cls) (hlink : (Cond.methodLink own index y).before args s = true) (hstat : (Cond.static y).before args s = true) (hinit : (Cond.initialized y.cls).before args s = true)
    (hcode : (Cond.codeWith y bytes maxL ret hh).before args s = true) (hy : y.cls ≠ "java/lang/invoke/MethodHandle" ∧ y.cls ≠ "java/lang/invoke/VarHandle")
    {W9 : Nat} {Pre : Pt → Array Value → Prop} {Post : Pt → Array Value → Option Value → Pt → Prop} {PostX : Pt → Array Value → Addr → Pt → Prop} (hK : vx_Back l R p e below s args y 3 W9 Pre Post PostX)
    {g : JFrame} (hg : g.method = m) (hsize : g.locals.size = c.maxLocals) {argsL rest : List Value} (hlen : ∀ sig, parseMethodDescriptor y.desc = some sig → argsL.length = sig.parameters.length)
    (hstack : g.stack = argsL.reverse ++ rest) (hW : 2 * g.monitorRoom + (rest.map fun v => v.category).sum ≤ W9) (hdg : decode c.code g.pc = .ok (.invokestatic index, 3))
    (hpre : ∀ vm₁, s.WarmedH vm₁ → Pre ⟨T.setVm vm₁, locs, cells, slots⟩ argsL.toArray) :
    (∃ (v : Option Value) (vm₁ : Vm) (B : Pt), s.WarmedH vm₁ ∧ Stand p l e R s m args below meth c B.U B.locs B.cells B.slots ∧ Post ⟨T.setVm vm₁, locs, cells, slots⟩ argsL.toArray v B ∧
      ∀ target, Steps p.tables e below (B.U.setTop { g with pc := g.pc + 3, stack := v.toList ++ rest }) target → Steps p.tables e below (T.setTop g) target) ∨
    (∃ (q : Addr) (vm₁ : Vm) (B : Pt), s.WarmedH vm₁ ∧ Stand p l e R s m args below meth c B.U B.locs B.cells B.slots ∧ PostX ⟨T.setVm vm₁, locs, cells, slots⟩ argsL.toArray q B ∧
      Steps p.tables e below (T.setTop g) ((B.U.setTop { g with stack := rest }).pushFrame (.throwing q))) := by
  obtain ⟨mk, methM, cM, hnamed, hmethM, -, -, -, -, -, -, hsigM⟩ := Cond.codeWith_spec hcode
  have hstatic : methM.isStatic = true := Cond.static_spec hnamed hmethM hstat
  obtain ⟨kP, hkP, -⟩ := className_of_methodNamed hnamed
  have hinitP : kP.init = .initialized := Cond.initialized_spec (findClass_of_methodNamed hnamed) hkP hinit
  obtain ⟨vm₁, X₁, hstep₁⟩ := X.invokestatic hexec hown hlink hnamed hmethM hstatic hkP hinitP hy (g := g) hg (argsL := argsL) (rest := rest) (hlen _ hsigM) hstack hdg
  rcases hK m meth c ⟨T.setVm vm₁, locs, cells, slots⟩ { g with stack := rest } (.invokestatic index) mk argsL.toArray X₁ hg hsize hdg hW (X₁.named hnamed) (hpre vm₁ X₁.warmed) with ⟨v, B, X', hpost, hsteps⟩ | ⟨q, B, X', hpost, hsteps⟩
  · exact Or.inl ⟨v, vm₁, B, X₁.warmed, X', hpost, fun target h => hstep₁ _ fun acts => by rw [doInvoke_state]; exact hsteps.trans h⟩
  · exact Or.inr ⟨q, vm₁, B, X₁.warmed, X', hpost, hstep₁ _ fun acts => by rw [doInvoke_state]; exact hsteps⟩
theorem vx_callVW (X : Stand p l e R s m args below meth c T locs cells slots) (hexec : p.tables.exec = Jvm.exec) {own C : String} {index : Nat} {y : MethodName} {bytes : ByteArray} {maxL : Nat} {ret : Option FieldType} {hh : List (Nat × Nat × Nat × Nat)}
    (hown : s.vm.findClass own = some m.cls) (hlink : (Cond.methodLink own index y).before args s = true) (hinst : (Cond.instanceMethod y).before args s = true) (hsel : (Cond.selects C y y).before args s = true)
    (hcode : (Cond.codeWith y bytes maxL ret hh).before args s = true) (hy : y.cls ≠ "java/lang/invoke/MethodHandle" ∧ y.cls ≠ "java/lang/invoke/VarHandle")
    {W9 : Nat} {Pre : Pt → Array Value → Prop} {Post : Pt → Array Value → Option Value → Pt → Prop} (hK : Back l R p e below s args y 3 W9 Pre Post)
    {b : Addr} {cellB : Cell} (hcell : T.heap[b]? = some cellB) (hobj : cellB.vm.isStatics = false) (hcls : s.vm.findClass C = some cellB.cls)
    {g : JFrame} (hg : g.method = m) (hsize : g.locals.size = c.maxLocals) {argsL rest : List Value} (hlen : ∀ sig, parseMethodDescriptor y.desc = some sig → argsL.length = sig.parameters.length)
    (hstack : g.stack = argsL.reverse ++ .ref b :: rest) (hW : 2 * g.monitorRoom + (rest.map fun v => v.category).sum ≤ W9) (hdg : decode c.code g.pc = .ok (.invokevirtual index, 3))
    (hpre : ∀ vm₁, s.WarmedH vm₁ → Pre ⟨T.setVm vm₁, locs, cells, slots⟩ (Value.ref b :: argsL).toArray) :
    ∃ (v : Option Value) (vm₁ : Vm) (B : Pt), s.WarmedH vm₁ ∧ Stand p l e R s m args below meth c B.U B.locs B.cells B.slots ∧ Post ⟨T.setVm vm₁, locs, cells, slots⟩ (Value.ref b :: argsL).toArray v B ∧
      ∀ target, Steps p.tables e below (B.U.setTop { g with pc := g.pc + 3, stack := v.toList ++ rest }) target → Steps p.tables e below (T.setTop g) target := by
  obtain ⟨mk, methM, hnamed, hmethM, hstM, habM⟩ := Cond.instanceMethod_spec hinst
  obtain ⟨m8, methM', cM, hn8, hmethM', -, -, -, -, -, -, hsigM⟩ := Cond.codeWith_spec hcode
  cases Option.some.inj (hn8.symm.trans hnamed)
  cases hmethM.symm.trans hmethM'
  obtain ⟨c2, r2, m2, q1, q2, q3, q4, kP, hkP, hkPi⟩ := Cond.selects_spec hsel
  cases hcls.symm.trans q1
  cases (State.methodFound?_of_named hnamed hy).symm.trans q2
  cases hnamed.symm.trans q3
  have hselP : selectMethod e.platform s.vm cellB.cls mk = .method mk := by rw [Launch.admits_selectMethod X.admits]; exact q4
  obtain ⟨vm₁, X₁, hstep₁⟩ := X.invokevirtual hexec hown hlink hnamed hmethM hstM hkP hkPi hy (a := b) (cell := cellB) hcell
    (fun z h => by rw [h] at hobj; cases hobj) hselP hmethM habM hkP hkPi (g := g) hg (argsL := argsL) (rest := rest) (hlen _ hsigM) hstack hdg
  obtain ⟨v, B, X', hpost, hsteps⟩ := hK m meth c ⟨T.setVm vm₁, locs, cells, slots⟩ { g with stack := rest } (.invokevirtual index) mk (Value.ref b :: argsL).toArray X₁ hg hsize hdg hW (X₁.named hnamed) (hpre vm₁ X₁.warmed)
  exact ⟨v, vm₁, B, X₁.warmed, X', hpost, fun target h => hstep₁ _ fun acts => by rw [doInvoke_state]; exact hsteps.trans h⟩
abbrev vx_CVW (R : Room) (s : State) (args : Array Value) (own C : String) (index : Nat) (y : MethodName) (bytes : ByteArray) (maxL : Nat) (ret : Option FieldType) (hh : List (Nat × Nat × Nat × Nat)) (ws : List Cond) (rm : Room) (mc ms n : Nat) : Prop :=
  (rm.cells = mc ∧ rm.slots = ms ∧ rm.frames + 1 ≤ R.frames ∧ 8 + (maxL + 11) + rm.locals ≤ R.locals ∧ (∀ w ∈ ws, ∀ (a' : Array Value) (U : State), s.WarmedH U.vm → w.before a' U = true) ∧ Cond.codeWith y bytes maxL ret hh ∈ ws) ∧
  (Cond.codeWith y bytes maxL ret hh).before args s = true ∧ (Cond.initialized y.cls).before args s = true ∧ (y.cls ≠ "java/lang/invoke/MethodHandle" ∧ y.cls ≠ "java/lang/invoke/VarHandle") ∧
  (∀ sig, parseMethodDescriptor y.desc = some sig → n = sig.parameters.length) ∧ (Cond.methodLink own index y).before args s = true ∧ (Cond.instanceMethod y).before args s = true ∧ (Cond.selects C y y).before args s = true
theorem vx_cwVW {own C : String} {index maxL mc ms : Nat} {y : MethodName} {bytes : ByteArray} {ret : Option FieldType} {hh : List (Nat × Nat × Nat × Nat)} {Ts ws ws' : List Cond} {rm : Room} (n : Nat) (ht : ∀ w ∈ Ts, w.before args s = true) (hT : GoodIn Ts (wsV own index C y ws)) (hw : ws = Cond.codeWith y bytes maxL ret hh :: ws') (hrc : rm.cells = mc) (hrs : rm.slots = ms)
    (hd : y.cls = C ∧ y.cls ≠ "java/lang/invoke/MethodHandle" ∧ y.cls ≠ "java/lang/invoke/VarHandle" ∧ (parseMethodDescriptor y.desc).map (fun d => d.parameters.length) = some n) (hR : rm.frames + 1 ≤ R.frames ∧ 8 + (maxL + 11) + rm.locals ≤ R.locals) :
    vx_CVW R s args own C index y bytes maxL ret hh ws rm mc ms n := by
  obtain ⟨hC, hd⟩ := hd
  subst hC
  have ok : ∀ w ∈ wsV own index y.cls y ws, w.before args s = true := fun w h => ht w (hT w h).1
  have hG : GoodIn Ts ws := fun w h => hT w (by unfold wsV; exact List.mem_append_right _ h)
  have hc : Cond.codeWith y bytes maxL ret hh ∈ ws := by rw [hw]; exact List.mem_cons_self
  refine ⟨⟨hrc, hrs, hR.1, hR.2, pay_in ht hG, hc⟩, ht _ (hG _ hc).1, ok _ (by simp [wsV]), ⟨hd.1, hd.2.1⟩, fun sig h => ?_, ok _ (by simp [wsV]), ok _ (by simp [wsV]), ok _ (by simp [wsV])⟩
  have h2 := hd.2.2
  rw [h] at h2
  exact (Option.some.inj h2).symm
theorem vx_runVW {y : MethodName} {bytes cc : ByteArray} {maxL nL mc ms n index : Nat} {ret : Option FieldType} {hh : List (Nat × Nat × Nat × Nat)} {ws : List Cond} {rm : Room} {Pc : Array Value → State → Prop} {Qc : Array Value → State → Outcome → State → Prop} {free : Addr → Prop} {Ts : List Cond} {own C : String} {b : Addr} {As rest : List Value} {g : JFrame}
    (S : CallFix p m c cc nL s args Ts own) (hM : Met l y ws rm Pc Qc mc ms free) (cw : vx_CVW R s args own C index y bytes maxL ret hh ws rm mc ms n) (hp : PreV s H C b Pc As)
    (hg : g.method = m) (hn : As.length = n) (hsize : g.locals.size = nL) (hstack : g.stack = As.reverse ++ .ref b :: rest) (hW : 2 * g.monitorRoom + (rest.map fun v => v.category).sum ≤ 8) (hdg : decode cc g.pc = .ok (.invokevirtual index, 3)) (hf : cells + mc ≤ R.cells ∧ slots + ms ≤ R.slots) :
    va_Run p l e R s m args below meth c H locs cells slots mc ms g rest (Qc (Value.ref b :: As).toArray) free := by
  obtain ⟨⟨hrc, hrs, hfr, hlo, hws, hcw⟩, hcode, hini, hy, hlen, hl, hin, hse⟩ := cw
  have hK : Back l R p e below s args y 3 8 (PreOf R mc ms Pc) (PostOf Qc mc ms free) := va_backW (hh := hh) (bytes := bytes) (maxL := maxL) (ret := ret) hM hp.1 hrc hrs hfr hlo hws hcw (fun a' U hW => word_at hW (Or.inl (by first | rfl | simp [Cond.onTables, Cond.keeps, Cond.steady])) hini)
  obtain ⟨hx, hb, hml, ho, -⟩ := S
  obtain ⟨-, ⟨cellB, hcB, hoB, hclB⟩, hPc⟩ := hp
  intro T hT X
  obtain ⟨v, vm₁, ⟨U', l2, c2, s2⟩, hW₁, X', ⟨g', mk, t, L, e1, e2, hq, h1, hL, h2, h3⟩, st⟩ := vx_callVW X hx (C := C) (hh := hh) (bytes := bytes) (maxL := maxL) (ret := ret) ho hl hin hse hcode hy hK (by rw [hT]; exact hcB) hoB hclB hg (hsize.trans hml.symm) (argsL := As) (rest := rest) (fun sig h => hn.trans (hlen sig h)) hstack hW (by rw [hb]; exact hdg)
    (fun vm₁ hW₁ => ⟨hf.1, hf.2, hPc (T.setVm vm₁) hT hW₁⟩)
  dsimp only [Pt.U, Pt.locs, Pt.cells, Pt.slots] at X' e1 e2 h1 h2 h3 st
  subst h1; subst h2; subst h3
  exact ⟨v, (T.setVm vm₁).calling g' mk (Value.ref b :: As).toArray, t, U', L, hT, X', hL, e1, e2, hq, st⟩
section
variable {y : MethodName} {bytes cc : ByteArray} {maxL nL mc ms n index : Nat} {ret : Option FieldType} {ws : List Cond} {rm : Room} {Pc : Array Value → State → Prop} {Qc : Array Value → State → Outcome → State → Prop} {XC : String → State → State → Prop} {free : Addr → Prop} {Ts : List Cond} {own C : String} {b : Addr} {As rest : List Value} {g : JFrame}
theorem vx_runVX {hh : List (Nat × Nat × Nat × Nat)} (S : CallFix p m c cc nL s args Ts own) (hM : vx_Met l y ws rm Pc Qc XC mc ms free) (cw : vx_CVW R s args own C index y bytes maxL ret hh ws rm mc ms n) (hp : PreV s H C b Pc As)
    (hg : g.method = m) (hn : As.length = n) (hsize : g.locals.size = nL) (hstack : g.stack = As.reverse ++ .ref b :: rest) (hW : 2 * g.monitorRoom + (rest.map fun v => v.category).sum ≤ 8) (hdg : decode cc g.pc = .ok (.invokevirtual index, 3)) (hf : cells + mc ≤ R.cells ∧ slots + ms ≤ R.slots) :
    vx_Run p l e R s m args below meth c H locs cells slots mc ms g rest (Qc (Value.ref b :: As).toArray) XC free := by
  obtain ⟨⟨hrc, hrs, hfr, hlo, hws, hcw⟩, hcode, hini, hy, hlen, hl, hin, hse⟩ := cw
  have hK : vx_Back l R p e below s args y 3 8 (PreOf R mc ms Pc) (PostOf Qc mc ms free) (vx_Post XC mc ms free) := vx_backW (hh := hh) (bytes := bytes) (maxL := maxL) (ret := ret) hM hp.1 hrc hrs hfr hlo hws hcw (fun a' U hW => word_at hW (Or.inl (by first | rfl | simp [Cond.onTables, Cond.keeps, Cond.steady])) hini)
  obtain ⟨hx, hb, hml, ho, -⟩ := S
  obtain ⟨-, ⟨cellB, hcB, hoB, hclB⟩, hPc⟩ := hp
  intro T hT X
  rcases vx_callVX X hx (C := C) (hh := hh) (bytes := bytes) (maxL := maxL) (ret := ret) ho hl hin hse hcode hy hK (by rw [hT]; exact hcB) hoB hclB hg (hsize.trans hml.symm) (argsL := As) (rest := rest) (fun sig h => hn.trans (hlen sig h)) hstack hW (by rw [hb]; exact hdg)
    (fun vm₁ hW₁ => ⟨hf.1, hf.2, hPc (T.setVm vm₁) hT hW₁⟩) with ⟨v, vm₁, ⟨U', l2, c2, s2⟩, hW₁, X', ⟨g', mk, t, L, e1, e2, hq, h1, hL, h2, h3⟩, st⟩ | ⟨q, vm₁, ⟨U', l2, c2, s2⟩, hW₁, X', ⟨g', mk, t, L, E, ce, e1, e2, hq, hce, hcv, hcl, h1, hL, h2, h3⟩, st⟩
  · dsimp only [Pt.U, Pt.locs, Pt.cells, Pt.slots] at X' e1 e2 h1 h2 h3 st
    subst h1; subst h2; subst h3
    exact Or.inl ⟨v, (T.setVm vm₁).calling g' mk (Value.ref b :: As).toArray, t, U', L, hT, X', hL, e1, e2, hq, st⟩
  · dsimp only [Pt.U, Pt.locs, Pt.cells, Pt.slots] at X' e1 e2 h1 h2 h3 st hcl
    subst h1; subst h2; subst h3
    exact Or.inr ⟨q, (T.setVm vm₁).calling g' mk (Value.ref b :: As).toArray, t, U', L, E, ce, hT, X', hL, e1, e2, hq, hce, hcv, vx_cls hW₁ hcl, st⟩
theorem vx_runSX {hh : List (Nat × Nat × Nat × Nat)} (S : CallFix p m c cc nL s args Ts own) (hM : vx_Met l y ws rm Pc Qc XC mc ms free) (cw : vx_CSW R s args own index y bytes maxL ret hh ws rm mc ms n) (hp : PreS s H Pc As)
    (hg : g.method = m) (hn : As.length = n) (hsize : g.locals.size = nL) (hstack : g.stack = As.reverse ++ rest) (hW : 2 * g.monitorRoom + (rest.map fun v => v.category).sum ≤ 8) (hdg : decode cc g.pc = .ok (.invokestatic index, 3)) (hf : cells + mc ≤ R.cells ∧ slots + ms ≤ R.slots) :
    vx_Run p l e R s m args below meth c H locs cells slots mc ms g rest (Qc As.toArray) XC free := by
  obtain ⟨⟨hrc, hrs, hfr, hlo, hws, hcw⟩, hcode, hini, hy, hlen, hl, hstt⟩ := cw
  have hK : vx_Back l R p e below s args y 3 8 (PreOf R mc ms Pc) (PostOf Qc mc ms free) (vx_Post XC mc ms free) := vx_backW (hh := hh) (bytes := bytes) (maxL := maxL) (ret := ret) hM hp.1 hrc hrs hfr hlo hws hcw (fun a' U hW => word_at hW (Or.inl (by first | rfl | simp [Cond.onTables, Cond.keeps, Cond.steady])) hini)
  obtain ⟨hx, hb, hml, ho, -⟩ := S
  intro T hT X
  rcases vx_callSX X hx (hh := hh) (bytes := bytes) (maxL := maxL) (ret := ret) ho hl hstt hini hcode hy hK hg (hsize.trans hml.symm) (argsL := As) (rest := rest) (fun sig h => hn.trans (hlen sig h)) hstack hW (by rw [hb]; exact hdg)
    (fun vm₁ hW₁ => ⟨hf.1, hf.2, hp.2 (T.setVm vm₁) hT hW₁⟩) with ⟨v, vm₁, ⟨U', l2, c2, s2⟩, hW₁, X', ⟨g', mk, t, L, e1, e2, hq, h1, hL, h2, h3⟩, st⟩ | ⟨q, vm₁, ⟨U', l2, c2, s2⟩, hW₁, X', ⟨g', mk, t, L, E, ce, e1, e2, hq, hce, hcv, hcl, h1, hL, h2, h3⟩, st⟩
  · dsimp only [Pt.U, Pt.locs, Pt.cells, Pt.slots] at X' e1 e2 h1 h2 h3 st
    subst h1; subst h2; subst h3
    exact Or.inl ⟨v, (T.setVm vm₁).calling g' mk As.toArray, t, U', L, hT, X', hL, e1, e2, hq, st⟩
  · dsimp only [Pt.U, Pt.locs, Pt.cells, Pt.slots] at X' e1 e2 h1 h2 h3 st hcl
    subst h1; subst h2; subst h3
    exact Or.inr ⟨q, (T.setVm vm₁).calling g' mk As.toArray, t, U', L, E, ce, hT, X', hL, e1, e2, hq, hce, hcv, vx_cls hW₁ hcl, st⟩
end
end VXH
theorem vx_ofWH {l : Launch} {y : MethodName} {ws ws' : List Cond} {rm : Room} {Pc : Array Value → State → Prop} {Qc : Array Value → State → Outcome → State → Prop} {XC : String → State → State → Prop} {mc ms : Nat} {free : Addr → Prop} {cc : ByteArray} {maxL : Nat} {ret : Option FieldType} {hh : List (Nat × Nat × Nat × Nat)}
    (hy : plainName y.cls = true) (hw : ws = Cond.codeWith y cc maxL ret hh :: ws')
    (body : ∀ p e s m args below meth c s₁, BodyLoose p l y (headSpec ws rm) cc maxL ret e s m args below meth c s₁ → c.maxLocals = maxL → Pc args s →
      W p l e (headSpec ws rm).room s m args below meth c s.heap [] 0 0 (vx_MQ below Qc XC args s mc ms free) (entryFrame m args maxL)) : vx_Met l y ws rm Pc Qc XC mc ms free := by
  refine MetFree.of_bodyS (code := cc) (maxLocals := maxL) (ret := ret) hy ?_ ?_
  · intro args s m h hn
    obtain ⟨m9, meth, c, hn9, h1, h2, h3, h4, -, h5, h6, -⟩ := Cond.codeWith_spec (atoms_spec (ws := ws) h _ (by rw [hw]; exact List.mem_cons_self))
    cases hn.symm.trans hn9
    exact ⟨meth, c, h1, h2, h3, h4, h5, h6⟩
  · intro p e s m args below meth c s₁ B hml hP _
    have hh0 : s₁.heap = s.heap := by rw [B.state]; rfl
    obtain ⟨t, a1, o, b1, b2, b3⟩ := body p e s m args below meth c s₁ B hml hP s₁ hh0 (Stand.of_body B)
    exact ⟨t, o, a1, b1, b2, b3⟩
/-! ===== END ===== -/
end
section
def RX0 : String := "CanyonBall$Ball"
def TX0 : u_T := fun k => match k with
  | 0 => ("CanyonBall$Ball", "place", "I", false)
  | 1 => ("CanyonBall$Ball", "speed", "I", false)
  | _ => ("CanyonBall$Ball", "isRight", "Z", false)
def tyX0 : Nat → FieldType := fun k => match k with
  | 0 => .int
  | 1 => .int
  | _ => .boolean
abbrev wsX00 : List Cond := u_ws RX0 TX0 3
theorem nmX0 : ∀ a, a < 3 → ∀ b, b < 3 → a ≠ b → (TX0 a).2.1 ≠ (TX0 b).2.1 := by decide +kernel
theorem tyX0_ok : ∀ k, k < 3 → parseFieldDescriptor (TX0 k).2.2.1 = some (tyX0 k) := by decide +kernel
abbrev cX0_init : ByteArray := prog_2_method_1_code
def yX0_init : MethodName := ⟨RX0, "<init>", "()V"⟩
abbrev cX0_copyFrom : ByteArray := prog_2_method_2_code
def yX0_copyFrom : MethodName := ⟨RX0, "copyFrom", "(LCanyonBall$Ball;)V"⟩
abbrev cX0_rightNumber : ByteArray := prog_2_method_3_code
def yX0_rightNumber : MethodName := ⟨RX0, "rightNumber", "()I"⟩
abbrev cX0_goTurn : ByteArray := prog_2_method_4_code
def yX0_goTurn : MethodName := ⟨RX0, "goTurn", "(I)V"⟩
abbrev cX0_goStep : ByteArray := prog_2_method_5_code
def yX0_goStep : MethodName := ⟨RX0, "goStep", "(I)V"⟩
abbrev cX0_unfoldedPlaceIn : ByteArray := prog_2_method_6_code
def yX0_unfoldedPlaceIn : MethodName := ⟨RX0, "unfoldedPlaceIn", "(II)I"⟩
abbrev cX0_followWord : ByteArray := prog_2_method_7_code
def yX0_followWord : MethodName := ⟨RX0, "followWord", "(I)V"⟩
def RX1 : String := "CanyonBall$Canyon"
def TX1 : u_T := fun k => match k with
  | 0 => ("CanyonBall$Canyon", "clock", "I", false)
  | 1 => ("CanyonBall$Canyon", "refused", "I", false)
  | 2 => ("CanyonBall$Canyon", "echoCount", "I", false)
  | 3 => ("CanyonBall$Canyon", "settings", "[I", true)
  | 4 => ("CanyonBall$Canyon", "ball", "LCanyonBall$Ball;", true)
  | 5 => ("CanyonBall$Canyon", "players", "[LCanyonBall$Player;", true)
  | _ => ("CanyonBall$Canyon", "echoes", "[LCanyonBall$Echo;", true)
def tyX1 : Nat → FieldType := fun k => match k with
  | 0 => .int
  | 1 => .int
  | 2 => .int
  | 3 => .array .int
  | 4 => .object "CanyonBall$Ball"
  | 5 => .array (.object "CanyonBall$Player")
  | _ => .array (.object "CanyonBall$Echo")
abbrev wsX10 : List Cond := u_ws RX1 TX1 7
theorem nmX1 : ∀ a, a < 7 → ∀ b, b < 7 → a ≠ b → (TX1 a).2.1 ≠ (TX1 b).2.1 := by decide +kernel
theorem tyX1_ok : ∀ k, k < 7 → parseFieldDescriptor (TX1 k).2.2.1 = some (tyX1 k) := by decide +kernel
abbrev cX1_init : ByteArray := prog_3_method_1_code
def yX1_init : MethodName := ⟨RX1, "<init>", "()V"⟩
abbrev cX1_copyFrom : ByteArray := prog_3_method_2_code
def yX1_copyFrom : MethodName := ⟨RX1, "copyFrom", "(LCanyonBall$Canyon;)V"⟩
abbrev cX1_lastPlace : ByteArray := prog_3_method_3_code
def yX1_lastPlace : MethodName := ⟨RX1, "lastPlace", "()I"⟩
abbrev cX1_furthestPlace : ByteArray := prog_3_method_4_code
def yX1_furthestPlace : MethodName := ⟨RX1, "furthestPlace", "()I"⟩
abbrev cX1_hasTimeFor : ByteArray := prog_3_method_5_code
def yX1_hasTimeFor : MethodName := ⟨RX1, "hasTimeFor", "(I)Z"⟩
abbrev cX1_echoTime : ByteArray := prog_3_method_6_code
def yX1_echoTime : MethodName := ⟨RX1, "echoTime", "(II)I"⟩
abbrev cX1_echoesOf : ByteArray := prog_3_method_7_code
def yX1_echoesOf : MethodName := ⟨RX1, "echoesOf", "(I)I"⟩
abbrev cX1_sendEchoes : ByteArray := prog_3_method_8_code
def yX1_sendEchoes : MethodName := ⟨RX1, "sendEchoes", "(II)I"⟩
abbrev cX1_addEcho : ByteArray := prog_3_method_9_code
def yX1_addEcho : MethodName := ⟨RX1, "addEcho", "(III)V"⟩
abbrev cX1_movePlayer : ByteArray := prog_3_method_10_code
def yX1_movePlayer : MethodName := ⟨RX1, "movePlayer", "(II)I"⟩
abbrev cX1_goTurns : ByteArray := prog_3_method_11_code
def yX1_goTurns : MethodName := ⟨RX1, "goTurns", "(I)I"⟩
abbrev cX1_goTurn : ByteArray := prog_3_method_12_code
def yX1_goTurn : MethodName := ⟨RX1, "goTurn", "()I"⟩
abbrev cX1_isCatch : ByteArray := prog_3_method_13_code
def yX1_isCatch : MethodName := ⟨RX1, "isCatch", "(I)Z"⟩
abbrev cX1_dropFirstEchoes : ByteArray := prog_3_method_14_code
def yX1_dropFirstEchoes : MethodName := ⟨RX1, "dropFirstEchoes", "(I)V"⟩
abbrev cX1_echoClashes : ByteArray := prog_3_method_15_code
def yX1_echoClashes : MethodName := ⟨RX1, "echoClashes", "(I)Z"⟩
abbrev cX1_isEchoDue : ByteArray := prog_3_method_16_code
def yX1_isEchoDue : MethodName := ⟨RX1, "isEchoDue", "(II)Z"⟩
abbrev cX1_newEchoClashes : ByteArray := prog_3_method_17_code
def yX1_newEchoClashes : MethodName := ⟨RX1, "newEchoClashes", "(II)Z"⟩
abbrev cX1_turnsToWait : ByteArray := prog_3_method_18_code
def yX1_turnsToWait : MethodName := ⟨RX1, "turnsToWait", "(I)I"⟩
abbrev cX1_meetsBallAlone : ByteArray := prog_3_method_19_code
def yX1_meetsBallAlone : MethodName := ⟨RX1, "meetsBallAlone", "(II)Z"⟩
abbrev cX1_turnsToQuiet : ByteArray := prog_3_method_20_code
def yX1_turnsToQuiet : MethodName := ⟨RX1, "turnsToQuiet", "()I"⟩
abbrev cX1_bestPlayer : ByteArray := prog_3_method_21_code
def yX1_bestPlayer : MethodName := ⟨RX1, "bestPlayer", "()I"⟩
abbrev cX1_shareAnswered : ByteArray := prog_3_method_22_code
def yX1_shareAnswered : MethodName := ⟨RX1, "shareAnswered", "()D"⟩
abbrev cX1_playerNumber : ByteArray := prog_3_method_23_code
def yX1_playerNumber : MethodName := ⟨RX1, "playerNumber", "(II)I"⟩
abbrev cX1_sumOfPlayers : ByteArray := prog_3_method_24_code
def yX1_sumOfPlayers : MethodName := ⟨RX1, "sumOfPlayers", "(I)I"⟩
abbrev cX1_echoNumber : ByteArray := prog_3_method_25_code
def yX1_echoNumber : MethodName := ⟨RX1, "echoNumber", "(II)I"⟩
abbrev cX1_number : ByteArray := prog_3_method_26_code
def yX1_number : MethodName := ⟨RX1, "number", "(I)I"⟩
def RX2 : String := "CanyonBall$Echo"
def TX2 : u_T := fun k => match k with
  | 0 => ("CanyonBall$Echo", "player", "I", false)
  | 1 => ("CanyonBall$Echo", "place", "I", false)
  | 2 => ("CanyonBall$Echo", "word", "I", false)
  | 3 => ("CanyonBall$Echo", "due", "I", false)
  | _ => ("CanyonBall$Echo", "wall", "I", false)
def tyX2 : Nat → FieldType := fun k => match k with
  | 0 => .int
  | 1 => .int
  | 2 => .int
  | 3 => .int
  | _ => .int
abbrev wsX20 : List Cond := u_ws RX2 TX2 5
theorem nmX2 : ∀ a, a < 5 → ∀ b, b < 5 → a ≠ b → (TX2 a).2.1 ≠ (TX2 b).2.1 := by decide +kernel
theorem tyX2_ok : ∀ k, k < 5 → parseFieldDescriptor (TX2 k).2.2.1 = some (tyX2 k) := by decide +kernel
abbrev cX2_init : ByteArray := prog_4_method_1_code
def yX2_init : MethodName := ⟨RX2, "<init>", "()V"⟩
abbrev cX2_copyFrom : ByteArray := prog_4_method_2_code
def yX2_copyFrom : MethodName := ⟨RX2, "copyFrom", "(LCanyonBall$Echo;)V"⟩
abbrev cX2_comesTo : ByteArray := prog_4_method_3_code
def yX2_comesTo : MethodName := ⟨RX2, "comesTo", "(II)Z"⟩
def RX3 : String := "CanyonBall$History"
def TX3 : u_T := fun k => match k with
  | 0 => ("CanyonBall$History", "states", "[LCanyonBall$Canyon;", true)
  | _ => ("CanyonBall$History", "size", "I", false)
def tyX3 : Nat → FieldType := fun k => match k with
  | 0 => .array (.object "CanyonBall$Canyon")
  | _ => .int
abbrev wsX30 : List Cond := u_ws RX3 TX3 2
theorem nmX3 : ∀ a, a < 2 → ∀ b, b < 2 → a ≠ b → (TX3 a).2.1 ≠ (TX3 b).2.1 := by decide +kernel
theorem tyX3_ok : ∀ k, k < 2 → parseFieldDescriptor (TX3 k).2.2.1 = some (tyX3 k) := by decide +kernel
abbrev cX3_init : ByteArray := prog_5_method_1_code
def yX3_init : MethodName := ⟨RX3, "<init>", "()V"⟩
abbrev cX3_save : ByteArray := prog_5_method_2_code
def yX3_save : MethodName := ⟨RX3, "save", "(LCanyonBall$Canyon;)V"⟩
abbrev cX3_dropOldest : ByteArray := prog_5_method_3_code
def yX3_dropOldest : MethodName := ⟨RX3, "dropOldest", "()V"⟩
abbrev cX3_restoreLatest : ByteArray := prog_5_method_4_code
def yX3_restoreLatest : MethodName := ⟨RX3, "restoreLatest", "(LCanyonBall$Canyon;)V"⟩
def RX4 : String := "CanyonBall$Player"
def TX4 : u_T := fun k => match k with
  | 0 => ("CanyonBall$Player", "place", "I", false)
  | 1 => ("CanyonBall$Player", "caught", "I", false)
  | 2 => ("CanyonBall$Player", "calls", "I", false)
  | 3 => ("CanyonBall$Player", "answered", "I", false)
  | 4 => ("CanyonBall$Player", "clashed", "I", false)
  | _ => ("CanyonBall$Player", "lost", "I", false)
def tyX4 : Nat → FieldType := fun k => match k with
  | 0 => .int
  | 1 => .int
  | 2 => .int
  | 3 => .int
  | 4 => .int
  | _ => .int
abbrev wsX40 : List Cond := u_ws RX4 TX4 6
theorem nmX4 : ∀ a, a < 6 → ∀ b, b < 6 → a ≠ b → (TX4 a).2.1 ≠ (TX4 b).2.1 := by decide +kernel
theorem tyX4_ok : ∀ k, k < 6 → parseFieldDescriptor (TX4 k).2.2.1 = some (tyX4 k) := by decide +kernel
abbrev cX4_init : ByteArray := prog_6_method_1_code
def yX4_init : MethodName := ⟨RX4, "<init>", "(I)V"⟩
abbrev cX4_copyFrom : ByteArray := prog_6_method_2_code
def yX4_copyFrom : MethodName := ⟨RX4, "copyFrom", "(LCanyonBall$Player;)V"⟩
abbrev cX4_isBetterThan : ByteArray := prog_6_method_3_code
def yX4_isBetterThan : MethodName := ⟨RX4, "isBetterThan", "(LCanyonBall$Player;)Z"⟩
def RX5 : String := "CanyonBall$TurnText"
def TX5 : u_T := fun k => match k with
  | 0 => ("CanyonBall$TurnText", "codes", "[I", true)
  | _ => ("CanyonBall$TurnText", "length", "I", false)
def tyX5 : Nat → FieldType := fun k => match k with
  | 0 => .array .int
  | _ => .int
abbrev wsX50 : List Cond := u_ws RX5 TX5 2
theorem nmX5 : ∀ a, a < 2 → ∀ b, b < 2 → a ≠ b → (TX5 a).2.1 ≠ (TX5 b).2.1 := by decide +kernel
theorem tyX5_ok : ∀ k, k < 2 → parseFieldDescriptor (TX5 k).2.2.1 = some (tyX5 k) := by decide +kernel
abbrev cX5_init : ByteArray := prog_7_method_1_code
def yX5_init : MethodName := ⟨RX5, "<init>", "()V"⟩
abbrev cX5_isFull : ByteArray := prog_7_method_2_code
def yX5_isFull : MethodName := ⟨RX5, "isFull", "()Z"⟩
abbrev cX5_add : ByteArray := prog_7_method_3_code
def yX5_add : MethodName := ⟨RX5, "add", "(I)V"⟩
abbrev cX5_codeAt : ByteArray := prog_7_method_4_code
def yX5_codeAt : MethodName := ⟨RX5, "codeAt", "(I)I"⟩
abbrev cX5_errorIndex : ByteArray := prog_7_method_5_code
def yX5_errorIndex : MethodName := ⟨RX5, "errorIndex", "()I"⟩
abbrev cX5_isTurns : ByteArray := prog_7_method_6_code
def yX5_isTurns : MethodName := ⟨RX5, "isTurns", "()Z"⟩
abbrev cX5_stateAfter : ByteArray := prog_7_method_7_code
def yX5_stateAfter : MethodName := ⟨RX5, "stateAfter", "(II)I"⟩
abbrev cX5_stateAfterStart : ByteArray := prog_7_method_8_code
def yX5_stateAfterStart : MethodName := ⟨RX5, "stateAfterStart", "(I)I"⟩
abbrev cX5_stateAfterOrder : ByteArray := prog_7_method_9_code
def yX5_stateAfterOrder : MethodName := ⟨RX5, "stateAfterOrder", "(I)I"⟩
abbrev cX5_isPlayer : ByteArray := prog_7_method_10_code
def yX5_isPlayer : MethodName := ⟨RX5, "isPlayer", "(I)Z"⟩
abbrev cX5_isDigit : ByteArray := prog_7_method_11_code
def yX5_isDigit : MethodName := ⟨RX5, "isDigit", "(I)Z"⟩
abbrev cX5_digitAt : ByteArray := prog_7_method_12_code
def yX5_digitAt : MethodName := ⟨RX5, "digitAt", "(I)I"⟩
abbrev cX5_stepsAt : ByteArray := prog_7_method_13_code
def yX5_stepsAt : MethodName := ⟨RX5, "stepsAt", "(I)I"⟩
abbrev cX5_numberAt : ByteArray := prog_7_method_14_code
def yX5_numberAt : MethodName := ⟨RX5, "numberAt", "(I)I"⟩
abbrev cX5_startsOrder : ByteArray := prog_7_method_15_code
def yX5_startsOrder : MethodName := ⟨RX5, "startsOrder", "(I)Z"⟩
def RX6 : String := "CanyonBall"
def TX6 : u_T := fun k => match k with
  | 0 => ("CanyonBall", "now", "LCanyonBall$Canyon;", true)
  | 1 => ("CanyonBall", "history", "LCanyonBall$History;", true)
  | 2 => ("CanyonBall", "slots", "[LCanyonBall$Canyon;", true)
  | 3 => ("CanyonBall", "isKept", "[Z", true)
  | 4 => ("CanyonBall", "text", "LCanyonBall$TurnText;", true)
  | _ => ("CanyonBall", "scratchBall", "LCanyonBall$Ball;", true)
def tyX6 : Nat → FieldType := fun k => match k with
  | 0 => .object "CanyonBall$Canyon"
  | 1 => .object "CanyonBall$History"
  | 2 => .array (.object "CanyonBall$Canyon")
  | 3 => .array .boolean
  | 4 => .object "CanyonBall$TurnText"
  | _ => .object "CanyonBall$Ball"
abbrev wsX60 : List Cond := u_ws RX6 TX6 6
theorem nmX6 : ∀ a, a < 6 → ∀ b, b < 6 → a ≠ b → (TX6 a).2.1 ≠ (TX6 b).2.1 := by decide +kernel
theorem tyX6_ok : ∀ k, k < 6 → parseFieldDescriptor (TX6 k).2.2.1 = some (tyX6 k) := by decide +kernel
abbrev cX6_init : ByteArray := prog_1_method_1_code
def yX6_init : MethodName := ⟨RX6, "<init>", "()V"⟩
abbrev cX6_call : ByteArray := prog_1_method_2_code
def yX6_call : MethodName := ⟨RX6, "call", "(II)I"⟩
abbrev cX6_walk : ByteArray := prog_1_method_3_code
def yX6_walk : MethodName := ⟨RX6, "walk", "(II)I"⟩
abbrev cX6_throwBall : ByteArray := prog_1_method_4_code
def yX6_throwBall : MethodName := ⟨RX6, "throwBall", "(IIZ)I"⟩
abbrev cX6_set : ByteArray := prog_1_method_5_code
def yX6_set : MethodName := ⟨RX6, "set", "(II)I"⟩
abbrev cX6_pass : ByteArray := prog_1_method_6_code
def yX6_pass : MethodName := ⟨RX6, "pass", "(I)I"⟩
abbrev cX6_append : ByteArray := prog_1_method_7_code
def yX6_append : MethodName := ⟨RX6, "append", "(I)I"⟩
abbrev cX6_clearBuffer : ByteArray := prog_1_method_8_code
def yX6_clearBuffer : MethodName := ⟨RX6, "clearBuffer", "()I"⟩
abbrev cX6_firstError : ByteArray := prog_1_method_9_code
def yX6_firstError : MethodName := ⟨RX6, "firstError", "()I"⟩
abbrev cX6_run : ByteArray := prog_1_method_10_code
def yX6_run : MethodName := ⟨RX6, "run", "()I"⟩
abbrev cX6_keep : ByteArray := prog_1_method_11_code
def yX6_keep : MethodName := ⟨RX6, "keep", "(I)I"⟩
abbrev cX6_goBack : ByteArray := prog_1_method_12_code
def yX6_goBack : MethodName := ⟨RX6, "goBack", "(I)I"⟩
abbrev cX6_undo : ByteArray := prog_1_method_13_code
def yX6_undo : MethodName := ⟨RX6, "undo", "()I"⟩
abbrev cX6_playerOf : ByteArray := prog_1_method_14_code
def yX6_playerOf : MethodName := ⟨RX6, "playerOf", "(II)I"⟩
abbrev cX6_echoOf : ByteArray := prog_1_method_15_code
def yX6_echoOf : MethodName := ⟨RX6, "echoOf", "(II)I"⟩
abbrev cX6_count : ByteArray := prog_1_method_16_code
def yX6_count : MethodName := ⟨RX6, "count", "(I)I"⟩
abbrev cX6_setting : ByteArray := prog_1_method_17_code
def yX6_setting : MethodName := ⟨RX6, "setting", "(I)I"⟩
abbrev cX6_ballIn : ByteArray := prog_1_method_18_code
def yX6_ballIn : MethodName := ⟨RX6, "ballIn", "(II)I"⟩
abbrev cX6_echoIn : ByteArray := prog_1_method_19_code
def yX6_echoIn : MethodName := ⟨RX6, "echoIn", "(II)I"⟩
abbrev cX6_wouldClash : ByteArray := prog_1_method_20_code
def yX6_wouldClash : MethodName := ⟨RX6, "wouldClash", "(II)I"⟩
abbrev cX6_callIn : ByteArray := prog_1_method_21_code
def yX6_callIn : MethodName := ⟨RX6, "callIn", "(I)I"⟩
abbrev cX6_quietIn : ByteArray := prog_1_method_22_code
def yX6_quietIn : MethodName := ⟨RX6, "quietIn", "()I"⟩
abbrev cX6_best : ByteArray := prog_1_method_23_code
def yX6_best : MethodName := ⟨RX6, "best", "()I"⟩
abbrev cX6_answeredShare : ByteArray := prog_1_method_24_code
def yX6_answeredShare : MethodName := ⟨RX6, "answeredShare", "()D"⟩
abbrev cX6_digest : ByteArray := prog_1_method_25_code
def yX6_digest : MethodName := ⟨RX6, "digest", "()J"⟩
abbrev cX6_checkPlayer : ByteArray := prog_1_method_26_code
def yX6_checkPlayer : MethodName := ⟨RX6, "checkPlayer", "(I)V"⟩
abbrev cX6_checkSetting : ByteArray := prog_1_method_27_code
def yX6_checkSetting : MethodName := ⟨RX6, "checkSetting", "(I)V"⟩
abbrev cX6_checkRange : ByteArray := prog_1_method_28_code
def yX6_checkRange : MethodName := ⟨RX6, "checkRange", "(III)V"⟩
abbrev cX6_doOrder : ByteArray := prog_1_method_29_code
def yX6_doOrder : MethodName := ⟨RX6, "doOrder", "(I)Z"⟩
abbrev cX6_countNumber : ByteArray := prog_1_method_30_code
def yX6_countNumber : MethodName := ⟨RX6, "countNumber", "(I)I"⟩
abbrev cX6_ballNumber : ByteArray := prog_1_method_31_code
def yX6_ballNumber : MethodName := ⟨RX6, "ballNumber", "(II)I"⟩
abbrev cX6_mixed : ByteArray := prog_1_method_32_code
def yX6_mixed : MethodName := ⟨RX6, "mixed", "(JJ)J"⟩
abbrev cX6_mixedWithPlayer : ByteArray := prog_1_method_33_code
def yX6_mixedWithPlayer : MethodName := ⟨RX6, "mixedWithPlayer", "(JI)J"⟩
abbrev cX6_mixedWithBall : ByteArray := prog_1_method_34_code
def yX6_mixedWithBall : MethodName := ⟨RX6, "mixedWithBall", "(JI)J"⟩
abbrev cX6_bitsOf : ByteArray := prog_1_method_35_code
def yX6_bitsOf : MethodName := ⟨RX6, "bitsOf", "(D)J"⟩
def RX7 : String := "CanyonBallModel"
def TX7 : u_T := fun k => match k with
  | 0 => ("CanyonBallModel", "thrown", "I", false)
  | 1 => ("CanyonBallModel", "state", "[I", true)
  | 2 => ("CanyonBallModel", "saved", "[I", true)
  | 3 => ("CanyonBallModel", "savedMany", "I", false)
  | 4 => ("CanyonBallModel", "slots", "[I", true)
  | 5 => ("CanyonBallModel", "isKept", "[I", true)
  | 6 => ("CanyonBallModel", "buffer", "[I", true)
  | 7 => ("CanyonBallModel", "length", "I", false)
  | 8 => ("CanyonBallModel", "at", "I", false)
  | 9 => ("CanyonBallModel", "letter", "I", false)
  | 10 => ("CanyonBallModel", "first", "I", false)
  | 11 => ("CanyonBallModel", "second", "I", false)
  | 12 => ("CanyonBallModel", "ball", "I", false)
  | 13 => ("CanyonBallModel", "goesRight", "Z", false)
  | _ => ("CanyonBallModel", "hash", "J", false)
def tyX7 : Nat → FieldType := fun k => match k with
  | 0 => .int
  | 1 => .array .int
  | 2 => .array .int
  | 3 => .int
  | 4 => .array .int
  | 5 => .array .int
  | 6 => .array .int
  | 7 => .int
  | 8 => .int
  | 9 => .int
  | 10 => .int
  | 11 => .int
  | 12 => .int
  | 13 => .boolean
  | _ => .long
abbrev wsX70 : List Cond := u_ws RX7 TX7 15
theorem nmX7 : ∀ a, a < 15 → ∀ b, b < 15 → a ≠ b → (TX7 a).2.1 ≠ (TX7 b).2.1 := by decide +kernel
theorem tyX7_ok : ∀ k, k < 15 → parseFieldDescriptor (TX7 k).2.2.1 = some (tyX7 k) := by decide +kernel
abbrev cX7_init : ByteArray := prog_9_method_1_code
def yX7_init : MethodName := ⟨RX7, "<init>", "()V"⟩
abbrev cX7_thrown : ByteArray := prog_9_method_2_code
def yX7_thrown : MethodName := ⟨RX7, "thrown", "()I"⟩
abbrev cX7_fails : ByteArray := prog_9_method_3_code
def yX7_fails : MethodName := ⟨RX7, "fails", "(I)I"⟩
abbrev cX7_within : ByteArray := prog_9_method_4_code
def yX7_within : MethodName := ⟨RX7, "within", "(III)Z"⟩
abbrev cX7_isPlayer : ByteArray := prog_9_method_5_code
def yX7_isPlayer : MethodName := ⟨RX7, "isPlayer", "(I)Z"⟩
abbrev cX7_ofPlayer : ByteArray := prog_9_method_6_code
def yX7_ofPlayer : MethodName := ⟨RX7, "ofPlayer", "(II)I"⟩
abbrev cX7_ofEcho : ByteArray := prog_9_method_7_code
def yX7_ofEcho : MethodName := ⟨RX7, "ofEcho", "(II)I"⟩
abbrev cX7_sum : ByteArray := prog_9_method_8_code
def yX7_sum : MethodName := ⟨RX7, "sum", "(I)I"⟩
abbrev cX7_save : ByteArray := prog_9_method_9_code
def yX7_save : MethodName := ⟨RX7, "save", "()V"⟩
abbrev cX7_undo : ByteArray := prog_9_method_10_code
def yX7_undo : MethodName := ⟨RX7, "undo", "()I"⟩
abbrev cX7_keep : ByteArray := prog_9_method_11_code
def yX7_keep : MethodName := ⟨RX7, "keep", "(I)I"⟩
abbrev cX7_goBack : ByteArray := prog_9_method_12_code
def yX7_goBack : MethodName := ⟨RX7, "goBack", "(I)I"⟩
abbrev cX7_takeBall : ByteArray := prog_9_method_13_code
def yX7_takeBall : MethodName := ⟨RX7, "takeBall", "()V"⟩
abbrev cX7_moveBall : ByteArray := prog_9_method_14_code
def yX7_moveBall : MethodName := ⟨RX7, "moveBall", "(I)V"⟩
abbrev cX7_unfolded : ByteArray := prog_9_method_15_code
def yX7_unfolded : MethodName := ⟨RX7, "unfolded", "(I)I"⟩
abbrev cX7_sendOn : ByteArray := prog_9_method_16_code
def yX7_sendOn : MethodName := ⟨RX7, "sendOn", "(I)V"⟩
abbrev cX7_delay : ByteArray := prog_9_method_17_code
def yX7_delay : MethodName := ⟨RX7, "delay", "(II)I"⟩
abbrev cX7_underWay : ByteArray := prog_9_method_18_code
def yX7_underWay : MethodName := ⟨RX7, "underWay", "(I)I"⟩
abbrev cX7_comingTo : ByteArray := prog_9_method_19_code
def yX7_comingTo : MethodName := ⟨RX7, "comingTo", "(II)I"⟩
abbrev cX7_addEcho : ByteArray := prog_9_method_20_code
def yX7_addEcho : MethodName := ⟨RX7, "addEcho", "(III)V"⟩
abbrev cX7_doesCall : ByteArray := prog_9_method_21_code
def yX7_doesCall : MethodName := ⟨RX7, "doesCall", "(II)I"⟩
abbrev cX7_doesWalk : ByteArray := prog_9_method_22_code
def yX7_doesWalk : MethodName := ⟨RX7, "doesWalk", "(II)I"⟩
abbrev cX7_comesBack : ByteArray := prog_9_method_23_code
def yX7_comesBack : MethodName := ⟨RX7, "comesBack", "(IZ)Z"⟩
abbrev cX7_dropDue : ByteArray := prog_9_method_24_code
def yX7_dropDue : MethodName := ⟨RX7, "dropDue", "()V"⟩
abbrev cX7_turn : ByteArray := prog_9_method_25_code
def yX7_turn : MethodName := ⟨RX7, "turn", "()I"⟩
abbrev cX7_doesPass : ByteArray := prog_9_method_26_code
def yX7_doesPass : MethodName := ⟨RX7, "doesPass", "(I)I"⟩
abbrev cX7_call : ByteArray := prog_9_method_27_code
def yX7_call : MethodName := ⟨RX7, "call", "(II)I"⟩
abbrev cX7_walk : ByteArray := prog_9_method_28_code
def yX7_walk : MethodName := ⟨RX7, "walk", "(II)I"⟩
abbrev cX7_throwBall : ByteArray := prog_9_method_29_code
def yX7_throwBall : MethodName := ⟨RX7, "throwBall", "(IIZ)I"⟩
abbrev cX7_hasRoom : ByteArray := prog_9_method_30_code
def yX7_hasRoom : MethodName := ⟨RX7, "hasRoom", "(I)Z"⟩
abbrev cX7_set : ByteArray := prog_9_method_31_code
def yX7_set : MethodName := ⟨RX7, "set", "(II)I"⟩
abbrev cX7_pass : ByteArray := prog_9_method_32_code
def yX7_pass : MethodName := ⟨RX7, "pass", "(I)I"⟩
abbrev cX7_append : ByteArray := prog_9_method_33_code
def yX7_append : MethodName := ⟨RX7, "append", "(I)I"⟩
abbrev cX7_clearBuffer : ByteArray := prog_9_method_34_code
def yX7_clearBuffer : MethodName := ⟨RX7, "clearBuffer", "()I"⟩
abbrev cX7_next : ByteArray := prog_9_method_35_code
def yX7_next : MethodName := ⟨RX7, "next", "()I"⟩
abbrev cX7_digit : ByteArray := prog_9_method_36_code
def yX7_digit : MethodName := ⟨RX7, "digit", "(II)I"⟩
abbrev cX7_takes : ByteArray := prog_9_method_37_code
def yX7_takes : MethodName := ⟨RX7, "takes", "(I)Z"⟩
abbrev cX7_readsCall : ByteArray := prog_9_method_38_code
def yX7_readsCall : MethodName := ⟨RX7, "readsCall", "()Z"⟩
abbrev cX7_readsWalk : ByteArray := prog_9_method_39_code
def yX7_readsWalk : MethodName := ⟨RX7, "readsWalk", "()Z"⟩
abbrev cX7_readsTurns : ByteArray := prog_9_method_40_code
def yX7_readsTurns : MethodName := ⟨RX7, "readsTurns", "()Z"⟩
abbrev cX7_readsOrder : ByteArray := prog_9_method_41_code
def yX7_readsOrder : MethodName := ⟨RX7, "readsOrder", "()Z"⟩
abbrev cX7_findError : ByteArray := prog_9_method_42_code
def yX7_findError : MethodName := ⟨RX7, "findError", "()I"⟩
abbrev cX7_firstError : ByteArray := prog_9_method_43_code
def yX7_firstError : MethodName := ⟨RX7, "firstError", "()I"⟩
abbrev cX7_doesOrder : ByteArray := prog_9_method_44_code
def yX7_doesOrder : MethodName := ⟨RX7, "doesOrder", "()Z"⟩
abbrev cX7_run : ByteArray := prog_9_method_45_code
def yX7_run : MethodName := ⟨RX7, "run", "()I"⟩
abbrev cX7_tellsPlayer : ByteArray := prog_9_method_46_code
def yX7_tellsPlayer : MethodName := ⟨RX7, "tellsPlayer", "(II)I"⟩
abbrev cX7_playerOf : ByteArray := prog_9_method_47_code
def yX7_playerOf : MethodName := ⟨RX7, "playerOf", "(II)I"⟩
abbrev cX7_echoAt : ByteArray := prog_9_method_48_code
def yX7_echoAt : MethodName := ⟨RX7, "echoAt", "(I)I"⟩
abbrev cX7_tellsEcho : ByteArray := prog_9_method_49_code
def yX7_tellsEcho : MethodName := ⟨RX7, "tellsEcho", "(II)I"⟩
abbrev cX7_echoOf : ByteArray := prog_9_method_50_code
def yX7_echoOf : MethodName := ⟨RX7, "echoOf", "(II)I"⟩
abbrev cX7_tellsCount : ByteArray := prog_9_method_51_code
def yX7_tellsCount : MethodName := ⟨RX7, "tellsCount", "(I)I"⟩
abbrev cX7_count : ByteArray := prog_9_method_52_code
def yX7_count : MethodName := ⟨RX7, "count", "(I)I"⟩
abbrev cX7_setting : ByteArray := prog_9_method_53_code
def yX7_setting : MethodName := ⟨RX7, "setting", "(I)I"⟩
abbrev cX7_tellsBall : ByteArray := prog_9_method_54_code
def yX7_tellsBall : MethodName := ⟨RX7, "tellsBall", "(II)I"⟩
abbrev cX7_ballIn : ByteArray := prog_9_method_55_code
def yX7_ballIn : MethodName := ⟨RX7, "ballIn", "(II)I"⟩
abbrev cX7_delayOf : ByteArray := prog_9_method_56_code
def yX7_delayOf : MethodName := ⟨RX7, "delayOf", "(II)I"⟩
abbrev cX7_echoIn : ByteArray := prog_9_method_57_code
def yX7_echoIn : MethodName := ⟨RX7, "echoIn", "(II)I"⟩
abbrev cX7_isClash : ByteArray := prog_9_method_58_code
def yX7_isClash : MethodName := ⟨RX7, "isClash", "(III)Z"⟩
abbrev cX7_wouldClash : ByteArray := prog_9_method_59_code
def yX7_wouldClash : MethodName := ⟨RX7, "wouldClash", "(II)I"⟩
abbrev cX7_meetsBall : ByteArray := prog_9_method_60_code
def yX7_meetsBall : MethodName := ⟨RX7, "meetsBall", "(III)Z"⟩
abbrev cX7_bestWait : ByteArray := prog_9_method_61_code
def yX7_bestWait : MethodName := ⟨RX7, "bestWait", "(I)I"⟩
abbrev cX7_callIn : ByteArray := prog_9_method_62_code
def yX7_callIn : MethodName := ⟨RX7, "callIn", "(I)I"⟩
abbrev cX7_tellsQuiet : ByteArray := prog_9_method_63_code
def yX7_tellsQuiet : MethodName := ⟨RX7, "tellsQuiet", "()I"⟩
abbrev cX7_quietIn : ByteArray := prog_9_method_64_code
def yX7_quietIn : MethodName := ⟨RX7, "quietIn", "()I"⟩
abbrev cX7_tellsBest : ByteArray := prog_9_method_65_code
def yX7_tellsBest : MethodName := ⟨RX7, "tellsBest", "()I"⟩
abbrev cX7_best : ByteArray := prog_9_method_66_code
def yX7_best : MethodName := ⟨RX7, "best", "()I"⟩
abbrev cX7_share : ByteArray := prog_9_method_67_code
def yX7_share : MethodName := ⟨RX7, "share", "()D"⟩
abbrev cX7_answeredShare : ByteArray := prog_9_method_68_code
def yX7_answeredShare : MethodName := ⟨RX7, "answeredShare", "()D"⟩
abbrev cX7_mix : ByteArray := prog_9_method_69_code
def yX7_mix : MethodName := ⟨RX7, "mix", "(J)V"⟩
abbrev cX7_mixPlayer : ByteArray := prog_9_method_70_code
def yX7_mixPlayer : MethodName := ⟨RX7, "mixPlayer", "(I)V"⟩
abbrev cX7_digest : ByteArray := prog_9_method_71_code
def yX7_digest : MethodName := ⟨RX7, "digest", "()J"⟩
def RJxe99ae : String := "java/lang/Double"
def TJxe99ae : u_T := fun k => match k with
  | _ => ("", "", "", false)
def tyJxe99ae : Nat → FieldType := fun k => match k with
  | _ => .int
abbrev wsJxe99ae0 : List Cond := u_ws RJxe99ae TJxe99ae 0
theorem nmJxe99ae : ∀ a, a < 0 → ∀ b, b < 0 → a ≠ b → (TJxe99ae a).2.1 ≠ (TJxe99ae b).2.1 := by decide +kernel
theorem tyJxe99ae_ok : ∀ k, k < 0 → parseFieldDescriptor (TJxe99ae k).2.2.1 = some (tyJxe99ae k) := by decide +kernel
abbrev cJxe99ae_isNaN_b9ae7 : ByteArray := prog_10_method_6_code
def yJxe99ae_isNaN_b9ae7 : MethodName := ⟨RJxe99ae, "isNaN", "(D)Z"⟩
abbrev cJxe99ae_doubleToLongBits_ccdee : ByteArray := prog_10_method_23_code
def yJxe99ae_doubleToLongBits_ccdee : MethodName := ⟨RJxe99ae, "doubleToLongBits", "(D)J"⟩
def RJ9 : String := "java/lang/Math"
def TJ9 : u_T := fun k => match k with
  | _ => ("", "", "", false)
def tyJ9 : Nat → FieldType := fun k => match k with
  | _ => .int
abbrev wsJ90 : List Cond := u_ws RJ9 TJ9 0
theorem nmJ9 : ∀ a, a < 0 → ∀ b, b < 0 → a ≠ b → (TJ9 a).2.1 ≠ (TJ9 b).2.1 := by decide +kernel
theorem tyJ9_ok : ∀ k, k < 0 → parseFieldDescriptor (TJ9 k).2.2.1 = some (tyJ9 k) := by decide +kernel
abbrev cJ9_max_7cf53 : ByteArray := prog_15_method_65_code
def yJ9_max_7cf53 : MethodName := ⟨RJ9, "max", "(II)I"⟩
abbrev cJ9_min_7cf53 : ByteArray := prog_15_method_69_code
def yJ9_min_7cf53 : MethodName := ⟨RJ9, "min", "(II)I"⟩
def RJ0 : String := "java/lang/String"
def TJ0 : u_T := fun k => match k with
  | _ => ("", "", "", false)
def tyJ0 : Nat → FieldType := fun k => match k with
  | _ => .int
abbrev wsJ00 : List Cond := u_ws RJ0 TJ0 0
theorem nmJ0 : ∀ a, a < 0 → ∀ b, b < 0 → a ≠ b → (TJ0 a).2.1 ≠ (TJ0 b).2.1 := by decide +kernel
theorem tyJ0_ok : ∀ k, k < 0 → parseFieldDescriptor (TJ0 k).2.2.1 = some (tyJ0 k) := by decide +kernel
def RL : String := "CanyonBallLaw"
abbrev cL_call : ByteArray := method_3_code
def yL_call : MethodName := ⟨RL, "call", "(LCanyonBall;II[J)I"⟩
abbrev cL_walk : ByteArray := method_4_code
def yL_walk : MethodName := ⟨RL, "walk", "(LCanyonBall;II[J)I"⟩
abbrev cL_throwBall : ByteArray := method_5_code
def yL_throwBall : MethodName := ⟨RL, "throwBall", "(LCanyonBall;IIZ[J)I"⟩
abbrev cL_set : ByteArray := method_6_code
def yL_set : MethodName := ⟨RL, "set", "(LCanyonBall;II[J)I"⟩
abbrev cL_pass : ByteArray := method_7_code
def yL_pass : MethodName := ⟨RL, "pass", "(LCanyonBall;I[J)I"⟩
abbrev cL_append : ByteArray := method_8_code
def yL_append : MethodName := ⟨RL, "append", "(LCanyonBall;I[J)I"⟩
abbrev cL_run : ByteArray := method_9_code
def yL_run : MethodName := ⟨RL, "run", "(LCanyonBall;[J)I"⟩
abbrev cL_keep : ByteArray := method_10_code
def yL_keep : MethodName := ⟨RL, "keep", "(LCanyonBall;I[J)I"⟩
abbrev cL_goBack : ByteArray := method_11_code
def yL_goBack : MethodName := ⟨RL, "goBack", "(LCanyonBall;I[J)I"⟩
abbrev cL_undo : ByteArray := method_12_code
def yL_undo : MethodName := ⟨RL, "undo", "(LCanyonBall;[J)I"⟩
abbrev cL_playerOf : ByteArray := method_13_code
def yL_playerOf : MethodName := ⟨RL, "playerOf", "(LCanyonBall;II[J)I"⟩
abbrev cL_echoOf : ByteArray := method_14_code
def yL_echoOf : MethodName := ⟨RL, "echoOf", "(LCanyonBall;II[J)I"⟩
abbrev cL_count : ByteArray := method_15_code
def yL_count : MethodName := ⟨RL, "count", "(LCanyonBall;I[J)I"⟩
abbrev cL_setting : ByteArray := method_16_code
def yL_setting : MethodName := ⟨RL, "setting", "(LCanyonBall;I[J)I"⟩
abbrev cL_ballIn : ByteArray := method_17_code
def yL_ballIn : MethodName := ⟨RL, "ballIn", "(LCanyonBall;II[J)I"⟩
abbrev cL_echoIn : ByteArray := method_18_code
def yL_echoIn : MethodName := ⟨RL, "echoIn", "(LCanyonBall;II[J)I"⟩
abbrev cL_wouldClash : ByteArray := method_19_code
def yL_wouldClash : MethodName := ⟨RL, "wouldClash", "(LCanyonBall;II[J)I"⟩
abbrev cL_callIn : ByteArray := method_20_code
def yL_callIn : MethodName := ⟨RL, "callIn", "(LCanyonBall;I[J)I"⟩
abbrev cL_law : ByteArray := code
def yL_law : MethodName := ⟨RL, "law", "([I)Z"⟩
def wsL_law0_r1 : List Cond := [Cond.classLink RL 8 RX6, Cond.instantiable RX6 6, Cond.initialized RX6, Cond.classLink RL 74 RX7, Cond.instantiable RX7 15, Cond.initialized RX7, Cond.arrayClass .long, Cond.methodLink RL 73 yX6_init, Cond.instanceMethod yX6_init, Cond.code yX6_init cX6_init 2 none, Cond.methodLink RX6 1 objectInit, Cond.instanceMethod objectInit, Cond.code objectInit ⟨#[0xb1]⟩ 1 none, Cond.classLink RX6 7 RX1, Cond.instantiable RX1 7, Cond.initialized RX1, Cond.fieldLink RX6 10 "CanyonBall" "now" "LCanyonBall$Canyon;", Cond.classLink RX6 16 RX3, Cond.instantiable RX3 2, Cond.initialized RX3, Cond.fieldLink RX6 19 "CanyonBall" "history" "LCanyonBall$History;", Cond.fieldLink RX6 23 "CanyonBall" "slots" "[LCanyonBall$Canyon;", Cond.arrayClass .boolean, Cond.fieldLink RX6 27 "CanyonBall" "isKept" "[Z"]
def wsL_law0_r2 : List Cond := [Cond.classLink RX6 31 RX5, Cond.instantiable RX5 2, Cond.initialized RX5, Cond.fieldLink RX6 34 "CanyonBall" "text" "LCanyonBall$TurnText;", Cond.classLink RX6 38 RX0, Cond.instantiable RX0 3, Cond.initialized RX0, Cond.fieldLink RX6 41 "CanyonBall" "scratchBall" "LCanyonBall$Ball;", Cond.methodLink RX6 9 yX1_init, Cond.instanceMethod yX1_init, Cond.code yX1_init cX1_init 2 none, Cond.methodLink RX1 3 objectInit, Cond.arrayClass .int, Cond.fieldLink RX1 9 "CanyonBall$Canyon" "settings" "[I", Cond.classLink RX1 15 RX0, Cond.fieldLink RX1 18 "CanyonBall$Canyon" "ball" "LCanyonBall$Ball;", Cond.classLink RX1 22 RX4, Cond.fieldLink RX1 24 "CanyonBall$Canyon" "players" "[LCanyonBall$Player;", Cond.classLink RX1 28 RX2, Cond.fieldLink RX1 30 "CanyonBall$Canyon" "echoes" "[LCanyonBall$Echo;", Cond.instantiable RX4 6, Cond.initialized RX4, Cond.instantiable RX2 5, Cond.initialized RX2]
def wsL_law0_r3 : List Cond := [Cond.instanceMethod yX0_init, Cond.code yX0_init cX0_init 1 none, Cond.methodLink RX0 3 objectInit, Cond.fieldLink RX0 9 "CanyonBall$Ball" "speed" "I", Cond.fieldLink RX0 15 "CanyonBall$Ball" "isRight" "Z", Cond.methodLink RX1 37 yX4_init, Cond.instanceMethod yX4_init, Cond.code yX4_init cX4_init 2 none, Cond.methodLink RX4 1 objectInit, Cond.fieldLink RX4 7 "CanyonBall$Player" "place" "I", Cond.instanceMethod yX2_init, Cond.code yX2_init cX2_init 1 none, Cond.methodLink RX2 1 objectInit, Cond.methodLink RX6 18 yX3_init, Cond.instanceMethod yX3_init, Cond.code yX3_init cX3_init 2 none, Cond.methodLink RX3 1 objectInit, Cond.classLink RX3 9 RX1, Cond.fieldLink RX3 11 "CanyonBall$History" "states" "[LCanyonBall$Canyon;", Cond.methodLink RX3 15 yX1_init, Cond.instanceMethod yX5_init, Cond.code yX5_init cX5_init 1 none, Cond.methodLink RX5 3 objectInit, Cond.fieldLink RX5 11 "CanyonBall$TurnText" "codes" "[I"]
def wsL_law0_r4 : List Cond := [Cond.methodLink RL 76 yX7_init, Cond.instanceMethod yX7_init, Cond.code yX7_init cX7_init 2 none, Cond.methodLink RX7 1 objectInit, Cond.fieldLink RX7 7 "CanyonBallModel" "state" "[I", Cond.fieldLink RX7 13 "CanyonBallModel" "saved" "[I", Cond.fieldLink RX7 16 "CanyonBallModel" "slots" "[I", Cond.fieldLink RX7 19 "CanyonBallModel" "isKept" "[I", Cond.fieldLink RX7 22 "CanyonBallModel" "buffer" "[I", Cond.methodLink RL 77 yL_call, Cond.static yL_call, Cond.initialized RL, Cond.codeWith yL_call cL_call 5 (some .int) [(0, 10, 13, 13), (0, 10, 17, 15)], Cond.classLink RL 13 "java/lang/IndexOutOfBoundsException", Cond.classLink RL 15 "java/lang/IllegalArgumentException", Cond.methodLink RL 7 yX6_call, Cond.instanceMethod yX6_call, Cond.selects RX6 yX6_call yX6_call, Cond.code yX6_call cX6_call 3 (some .int), Cond.methodLink RX6 45 yX6_checkPlayer, Cond.static yX6_checkPlayer, Cond.code yX6_checkPlayer cX6_checkPlayer 1 none, Cond.classLink RX6 224 "java/lang/IndexOutOfBoundsException", Cond.initialized "java/lang/IndexOutOfBoundsException"]
def wsL_law0_r5 : List Cond := [Cond.methodLink RX6 49 yX6_checkRange, Cond.static yX6_checkRange, Cond.code yX6_checkRange cX6_checkRange 3 none, Cond.classLink RX6 133 "java/lang/IllegalArgumentException", Cond.initialized "java/lang/IllegalArgumentException", Cond.methodLink RX6 53 yX3_save, Cond.instanceMethod yX3_save, Cond.selects RX3 yX3_save yX3_save, Cond.code yX3_save cX3_save 2 none, Cond.fieldLink RX3 16 "CanyonBall$History" "size" "I", Cond.methodLink RX3 20 yX3_dropOldest, Cond.instanceMethod yX3_dropOldest, Cond.selects RX3 yX3_dropOldest yX3_dropOldest, Cond.code yX3_dropOldest cX3_dropOldest 3 none, Cond.methodLink RX3 23 yX1_copyFrom, Cond.instanceMethod yX1_copyFrom, Cond.selects RX1 yX1_copyFrom yX1_copyFrom, Cond.code yX1_copyFrom cX1_copyFrom 3 none, Cond.fieldLink RX1 41 "CanyonBall$Canyon" "clock" "I", Cond.fieldLink RX1 45 "CanyonBall$Canyon" "refused" "I", Cond.fieldLink RX1 48 "CanyonBall$Canyon" "echoCount" "I", Cond.methodLink RX1 51 yX0_copyFrom, Cond.instanceMethod yX0_copyFrom, Cond.selects RX0 yX0_copyFrom yX0_copyFrom]
def wsL_law0_r6 : List Cond := [Cond.code yX0_copyFrom cX0_copyFrom 2 none, Cond.fieldLink RX0 19 "CanyonBall$Ball" "place" "I", Cond.methodLink RX1 55 yX4_copyFrom, Cond.instanceMethod yX4_copyFrom, Cond.selects RX4 yX4_copyFrom yX4_copyFrom, Cond.code yX4_copyFrom cX4_copyFrom 2 none, Cond.fieldLink RX4 13 "CanyonBall$Player" "caught" "I", Cond.fieldLink RX4 16 "CanyonBall$Player" "calls" "I", Cond.fieldLink RX4 19 "CanyonBall$Player" "answered" "I", Cond.fieldLink RX4 22 "CanyonBall$Player" "clashed" "I", Cond.fieldLink RX4 25 "CanyonBall$Player" "lost" "I", Cond.methodLink RX1 58 yX2_copyFrom, Cond.instanceMethod yX2_copyFrom, Cond.selects RX2 yX2_copyFrom yX2_copyFrom, Cond.code yX2_copyFrom cX2_copyFrom 2 none, Cond.fieldLink RX2 7 "CanyonBall$Echo" "player" "I", Cond.fieldLink RX2 13 "CanyonBall$Echo" "place" "I", Cond.fieldLink RX2 16 "CanyonBall$Echo" "word" "I", Cond.fieldLink RX2 19 "CanyonBall$Echo" "due" "I", Cond.fieldLink RX2 22 "CanyonBall$Echo" "wall" "I", Cond.methodLink RX6 57 yX1_sendEchoes, Cond.instanceMethod yX1_sendEchoes, Cond.selects RX1 yX1_sendEchoes yX1_sendEchoes, Cond.code yX1_sendEchoes cX1_sendEchoes 4 (some .int)]
def wsL_law0_r7 : List Cond := [Cond.fieldLink RX1 84 "CanyonBall$Player" "calls" "I", Cond.fieldLink RX1 64 "CanyonBall$Player" "place" "I", Cond.methodLink RX1 94 Lib.Math.min.name, Cond.static Lib.Math.min.name, Cond.initialized "java/lang/Math", Cond.code Lib.Math.min.name Lib.Math.min.code 2 (some .int), Cond.methodLink RX1 80 yX1_echoesOf, Cond.instanceMethod yX1_echoesOf, Cond.selects RX1 yX1_echoesOf yX1_echoesOf, Cond.code yX1_echoesOf cX1_echoesOf 4 (some .int), Cond.fieldLink RX1 77 "CanyonBall$Echo" "player" "I", Cond.methodLink RX1 87 yX1_addEcho, Cond.instanceMethod yX1_addEcho, Cond.selects RX1 yX1_addEcho yX1_addEcho, Cond.code yX1_addEcho cX1_addEcho 6 none, Cond.fieldLink RX1 71 "CanyonBall$Echo" "place" "I", Cond.fieldLink RX1 97 "CanyonBall$Echo" "word" "I", Cond.fieldLink RX1 100 "CanyonBall$Echo" "wall" "I", Cond.fieldLink RX1 103 "CanyonBall$Echo" "due" "I", Cond.methodLink RX1 91 yX1_echoTime, Cond.instanceMethod yX1_echoTime, Cond.selects RX1 yX1_echoTime yX1_echoTime, Cond.code yX1_echoTime cX1_echoTime 6 (some .int), Cond.methodLink RX1 65 Lib.Math.max.name]
def wsL_law0_r8 : List Cond := [Cond.static Lib.Math.max.name, Cond.code Lib.Math.max.name Lib.Math.max.code 2 (some .int), Cond.methodLink RX1 73 yX1_lastPlace, Cond.instanceMethod yX1_lastPlace, Cond.selects RX1 yX1_lastPlace yX1_lastPlace, Cond.code yX1_lastPlace cX1_lastPlace 1 (some .int), Cond.methodLink RL 82 yX7_call, Cond.instanceMethod yX7_call, Cond.selects RX7 yX7_call yX7_call, Cond.code yX7_call cX7_call 3 (some .int), Cond.fieldLink RX7 25 "CanyonBallModel" "thrown" "I", Cond.methodLink RX7 91 yX7_isPlayer, Cond.static yX7_isPlayer, Cond.code yX7_isPlayer cX7_isPlayer 1 (some .boolean), Cond.methodLink RX7 29 yX7_within, Cond.static yX7_within, Cond.code yX7_within cX7_within 3 (some .boolean), Cond.methodLink RX7 40 yX7_fails, Cond.instanceMethod yX7_fails, Cond.selects RX7 yX7_fails yX7_fails, Cond.code yX7_fails cX7_fails 2 (some .int), Cond.methodLink RX7 44 yX7_save, Cond.instanceMethod yX7_save, Cond.selects RX7 yX7_save yX7_save]
def wsL_law0_r9 : List Cond := [Cond.code yX7_save cX7_save 2 none, Cond.fieldLink RX7 37 "CanyonBallModel" "savedMany" "I", Cond.methodLink RX7 95 yX7_doesCall, Cond.instanceMethod yX7_doesCall, Cond.selects RX7 yX7_doesCall yX7_doesCall, Cond.code yX7_doesCall cX7_doesCall 5 (some .int), Cond.methodLink RX7 60 yX7_underWay, Cond.instanceMethod yX7_underWay, Cond.selects RX7 yX7_underWay yX7_underWay, Cond.code yX7_underWay cX7_underWay 4 (some .int), Cond.methodLink RX7 54 yX7_ofEcho, Cond.instanceMethod yX7_ofEcho, Cond.selects RX7 yX7_ofEcho yX7_ofEcho, Cond.code yX7_ofEcho cX7_ofEcho 3 (some .int), Cond.methodLink RX7 63 yX7_addEcho, Cond.instanceMethod yX7_addEcho, Cond.selects RX7 yX7_addEcho yX7_addEcho, Cond.code yX7_addEcho cX7_addEcho 6 none, Cond.methodLink RX7 33 yX7_ofPlayer, Cond.instanceMethod yX7_ofPlayer, Cond.selects RX7 yX7_ofPlayer yX7_ofPlayer, Cond.code yX7_ofPlayer cX7_ofPlayer 3 (some .int), Cond.methodLink RX7 57 yX7_delay, Cond.instanceMethod yX7_delay]
def wsL_law0_r10 : List Cond := [Cond.selects RX7 yX7_delay yX7_delay, Cond.code yX7_delay cX7_delay 5 (some .int), Cond.methodLink RL 83 yX7_thrown, Cond.instanceMethod yX7_thrown, Cond.selects RX7 yX7_thrown yX7_thrown, Cond.code yX7_thrown cX7_thrown 1 (some .int), Cond.methodLink RL 86 yL_walk, Cond.static yL_walk, Cond.codeWith yL_walk cL_walk 5 (some .int) [(0, 10, 13, 13), (0, 10, 17, 15)], Cond.methodLink RL 17 yX6_walk, Cond.instanceMethod yX6_walk, Cond.selects RX6 yX6_walk yX6_walk, Cond.code yX6_walk cX6_walk 3 (some .int), Cond.methodLink RX6 61 yX1_movePlayer, Cond.instanceMethod yX1_movePlayer, Cond.selects RX1 yX1_movePlayer yX1_movePlayer, Cond.code yX1_movePlayer cX1_movePlayer 4 (some .int), Cond.methodLink RL 88 yX7_walk, Cond.instanceMethod yX7_walk, Cond.selects RX7 yX7_walk yX7_walk, Cond.code yX7_walk cX7_walk 3 (some .int), Cond.methodLink RX7 98 yX7_doesWalk, Cond.instanceMethod yX7_doesWalk, Cond.selects RX7 yX7_doesWalk yX7_doesWalk]
def wsL_law0_r11 : List Cond := [Cond.code yX7_doesWalk cX7_doesWalk 4 (some .int), Cond.methodLink RL 89 yL_throwBall, Cond.static yL_throwBall, Cond.codeWith yL_throwBall cL_throwBall 6 (some .int) [(0, 12, 15, 15)], Cond.methodLink RL 20 yX6_throwBall, Cond.instanceMethod yX6_throwBall, Cond.selects RX6 yX6_throwBall yX6_throwBall, Cond.code yX6_throwBall cX6_throwBall 5 (some .int), Cond.fieldLink RX6 68 "CanyonBall$Canyon" "ball" "LCanyonBall$Ball;", Cond.fieldLink RX6 71 "CanyonBall$Ball" "place" "I", Cond.fieldLink RX6 75 "CanyonBall$Ball" "speed" "I", Cond.fieldLink RX6 78 "CanyonBall$Ball" "isRight" "Z", Cond.methodLink RX6 64 yX1_lastPlace, Cond.methodLink RL 92 yX7_throwBall, Cond.instanceMethod yX7_throwBall, Cond.selects RX7 yX7_throwBall yX7_throwBall, Cond.code yX7_throwBall cX7_throwBall 5 (some .int), Cond.methodLink RL 93 yL_set, Cond.static yL_set, Cond.codeWith yL_set cL_set 5 (some .int) [(0, 10, 13, 13), (0, 10, 17, 15), (0, 10, 21, 27)], Cond.classLink RL 27 "java/lang/IllegalStateException", Cond.methodLink RL 24 yX6_set, Cond.instanceMethod yX6_set, Cond.selects RX6 yX6_set yX6_set]
def wsL_law0_r12 : List Cond := [Cond.code yX6_set cX6_set 4 (some .int), Cond.classLink RX6 95 "java/lang/IllegalStateException", Cond.initialized "java/lang/IllegalStateException", Cond.fieldLink RX6 85 "CanyonBall" "LEAST_VALUES" "[I", Cond.fieldLink RX6 89 "CanyonBall" "MOST_VALUES" "[I", Cond.fieldLink RX6 102 "CanyonBall$Canyon" "settings" "[I", Cond.methodLink RX6 82 yX6_checkSetting, Cond.static yX6_checkSetting, Cond.code yX6_checkSetting cX6_checkSetting 1 none, Cond.methodLink RX6 92 yX1_furthestPlace, Cond.instanceMethod yX1_furthestPlace, Cond.selects RX1 yX1_furthestPlace yX1_furthestPlace, Cond.code yX1_furthestPlace cX1_furthestPlace 3 (some .int), Cond.fieldLink RX1 61 "CanyonBall$Ball" "place" "I", Cond.methodLink RL 95 yX7_set, Cond.instanceMethod yX7_set, Cond.selects RX7 yX7_set yX7_set, Cond.code yX7_set cX7_set 6 (some .int), Cond.methodLink RX7 101 yX7_hasRoom, Cond.instanceMethod yX7_hasRoom, Cond.selects RX7 yX7_hasRoom yX7_hasRoom, Cond.code yX7_hasRoom cX7_hasRoom 4 (some .boolean), Cond.methodLink RL 96 yL_pass, Cond.static yL_pass]
def wsL_law0_r13 : List Cond := [Cond.codeWith yL_pass cL_pass 4 (some .int) [(0, 9, 12, 15), (0, 9, 15, 27)], Cond.methodLink RL 29 yX6_pass, Cond.instanceMethod yX6_pass, Cond.selects RX6 yX6_pass yX6_pass, Cond.code yX6_pass cX6_pass 2 (some .int), Cond.methodLink RX6 105 yX1_hasTimeFor, Cond.instanceMethod yX1_hasTimeFor, Cond.selects RX1 yX1_hasTimeFor yX1_hasTimeFor, Cond.code yX1_hasTimeFor cX1_hasTimeFor 2 (some .boolean), Cond.constant RX1 72 (99999), Cond.methodLink RX6 111 yX1_goTurns, Cond.instanceMethod yX1_goTurns, Cond.selects RX1 yX1_goTurns yX1_goTurns, Cond.code yX1_goTurns cX1_goTurns 4 (some .int), Cond.methodLink RX1 106 yX1_goTurn, Cond.instanceMethod yX1_goTurn, Cond.selects RX1 yX1_goTurn yX1_goTurn, Cond.code yX1_goTurn cX1_goTurn 3 (some .int), Cond.methodLink RX1 109 yX0_goTurn, Cond.instanceMethod yX0_goTurn, Cond.selects RX0 yX0_goTurn yX0_goTurn, Cond.code yX0_goTurn cX0_goTurn 3 none, Cond.methodLink RX0 22 yX0_goStep, Cond.instanceMethod yX0_goStep]
def wsL_law0_r14 : List Cond := [Cond.selects RX0 yX0_goStep yX0_goStep, Cond.code yX0_goStep cX0_goStep 2 none, Cond.methodLink RX1 111 yX1_isCatch, Cond.instanceMethod yX1_isCatch, Cond.selects RX1 yX1_isCatch yX1_isCatch, Cond.code yX1_isCatch cX1_isCatch 4 (some .boolean), Cond.fieldLink RX1 121 "CanyonBall$Player" "clashed" "I", Cond.fieldLink RX1 124 "CanyonBall$Player" "lost" "I", Cond.fieldLink RX1 127 "CanyonBall$Player" "answered" "I", Cond.fieldLink RX1 130 "CanyonBall$Player" "caught" "I", Cond.methodLink RX1 118 yX1_echoClashes, Cond.instanceMethod yX1_echoClashes, Cond.selects RX1 yX1_echoClashes yX1_echoClashes, Cond.code yX1_echoClashes cX1_echoClashes 4 (some .boolean), Cond.methodLink RX1 136 yX2_comesTo, Cond.instanceMethod yX2_comesTo, Cond.selects RX2 yX2_comesTo yX2_comesTo, Cond.code yX2_comesTo cX2_comesTo 3 (some .boolean), Cond.methodLink RX1 133 yX0_followWord, Cond.instanceMethod yX0_followWord, Cond.selects RX0 yX0_followWord yX0_followWord, Cond.code yX0_followWord cX0_followWord 2 none, Cond.methodLink RX0 32 Lib.Math.min.name, Cond.methodLink RX0 26 Lib.Math.max.name]
def wsL_law0_r15 : List Cond := [Cond.methodLink RX1 115 yX1_dropFirstEchoes, Cond.instanceMethod yX1_dropFirstEchoes, Cond.selects RX1 yX1_dropFirstEchoes yX1_dropFirstEchoes, Cond.code yX1_dropFirstEchoes cX1_dropFirstEchoes 4 none, Cond.methodLink RL 99 yX7_pass, Cond.instanceMethod yX7_pass, Cond.selects RX7 yX7_pass yX7_pass, Cond.code yX7_pass cX7_pass 2 (some .int), Cond.constant RX7 104 (99999), Cond.methodLink RX7 105 yX7_doesPass, Cond.instanceMethod yX7_doesPass, Cond.selects RX7 yX7_doesPass yX7_doesPass, Cond.code yX7_doesPass cX7_doesPass 4 (some .int), Cond.methodLink RX7 87 yX7_turn, Cond.instanceMethod yX7_turn, Cond.selects RX7 yX7_turn yX7_turn, Cond.code yX7_turn cX7_turn 6 (some .int), Cond.fieldLink RX7 47 "CanyonBallModel" "ball" "I", Cond.fieldLink RX7 50 "CanyonBallModel" "goesRight" "Z", Cond.methodLink RX7 71 yX7_takeBall, Cond.instanceMethod yX7_takeBall, Cond.selects RX7 yX7_takeBall yX7_takeBall, Cond.code yX7_takeBall cX7_takeBall 1 none, Cond.methodLink RX7 74 yX7_moveBall]
def wsL_law0_r16 : List Cond := [Cond.instanceMethod yX7_moveBall, Cond.selects RX7 yX7_moveBall yX7_moveBall, Cond.code yX7_moveBall cX7_moveBall 3 none, Cond.methodLink RX7 77 yX7_comingTo, Cond.instanceMethod yX7_comingTo, Cond.selects RX7 yX7_comingTo yX7_comingTo, Cond.code yX7_comingTo cX7_comingTo 5 (some .int), Cond.methodLink RX7 80 yX7_comesBack, Cond.instanceMethod yX7_comesBack, Cond.selects RX7 yX7_comesBack yX7_comesBack, Cond.code yX7_comesBack cX7_comesBack 6 (some .boolean), Cond.methodLink RX7 67 yX7_sendOn, Cond.instanceMethod yX7_sendOn, Cond.selects RX7 yX7_sendOn yX7_sendOn, Cond.code yX7_sendOn cX7_sendOn 3 none, Cond.methodLink RX7 84 yX7_dropDue, Cond.instanceMethod yX7_dropDue, Cond.selects RX7 yX7_dropDue yX7_dropDue, Cond.code yX7_dropDue cX7_dropDue 4 none, Cond.methodLink RL 100 yL_append, Cond.static yL_append, Cond.codeWith yL_append cL_append 4 (some .int) [(0, 9, 12, 15), (0, 9, 15, 27)], Cond.methodLink RL 33 yX6_append, Cond.instanceMethod yX6_append]
def wsL_law0_r17 : List Cond := [Cond.selects RX6 yX6_append yX6_append, Cond.code yX6_append cX6_append 2 (some .int), Cond.fieldLink RX6 124 "CanyonBall$TurnText" "length" "I", Cond.methodLink RX6 115 yX5_isFull, Cond.instanceMethod yX5_isFull, Cond.selects RX5 yX5_isFull yX5_isFull, Cond.code yX5_isFull cX5_isFull 1 (some .boolean), Cond.fieldLink RX5 15 "CanyonBall$TurnText" "length" "I", Cond.methodLink RX6 121 yX5_add, Cond.instanceMethod yX5_add, Cond.selects RX5 yX5_add yX5_add, Cond.code yX5_add cX5_add 2 none, Cond.methodLink RL 102 yX7_append, Cond.instanceMethod yX7_append, Cond.selects RX7 yX7_append yX7_append, Cond.code yX7_append cX7_append 2 (some .int), Cond.fieldLink RX7 108 "CanyonBallModel" "length" "I", Cond.methodLink RL 103 yX6_clearBuffer, Cond.instanceMethod yX6_clearBuffer, Cond.selects RX6 yX6_clearBuffer yX6_clearBuffer, Cond.code yX6_clearBuffer cX6_clearBuffer 2 (some .int), Cond.methodLink RL 106 yX7_clearBuffer, Cond.instanceMethod yX7_clearBuffer, Cond.selects RX7 yX7_clearBuffer yX7_clearBuffer]
def wsL_law0_r18 : List Cond := [Cond.code yX7_clearBuffer cX7_clearBuffer 2 (some .int), Cond.methodLink RL 107 yX6_firstError, Cond.instanceMethod yX6_firstError, Cond.selects RX6 yX6_firstError yX6_firstError, Cond.code yX6_firstError cX6_firstError 1 (some .int), Cond.methodLink RX6 127 yX5_errorIndex, Cond.instanceMethod yX5_errorIndex, Cond.selects RX5 yX5_errorIndex yX5_errorIndex, Cond.code yX5_errorIndex cX5_errorIndex 3 (some .int), Cond.methodLink RX5 19 yX5_stateAfter, Cond.static yX5_stateAfter, Cond.code yX5_stateAfter cX5_stateAfter 2 (some .int), Cond.methodLink RX5 23 yX5_stateAfterStart, Cond.static yX5_stateAfterStart, Cond.code yX5_stateAfterStart cX5_stateAfterStart 1 (some .int), Cond.methodLink RX5 27 yX5_isPlayer, Cond.static yX5_isPlayer, Cond.code yX5_isPlayer cX5_isPlayer 1 (some .boolean), Cond.methodLink RX5 31 yX5_isDigit, Cond.static yX5_isDigit, Cond.code yX5_isDigit cX5_isDigit 1 (some .boolean), Cond.methodLink RX5 34 yX5_stateAfterOrder, Cond.static yX5_stateAfterOrder, Cond.code yX5_stateAfterOrder cX5_stateAfterOrder 1 (some .int)]
def wsL_law0_r19 : List Cond := [Cond.methodLink RL 110 yX7_firstError, Cond.instanceMethod yX7_firstError, Cond.selects RX7 yX7_firstError yX7_firstError, Cond.code yX7_firstError cX7_firstError 2 (some .int), Cond.methodLink RX7 145 yX7_findError, Cond.instanceMethod yX7_findError, Cond.selects RX7 yX7_findError yX7_findError, Cond.code yX7_findError cX7_findError 1 (some .int), Cond.fieldLink RX7 111 "CanyonBallModel" "at" "I", Cond.methodLink RX7 142 yX7_readsOrder, Cond.instanceMethod yX7_readsOrder, Cond.selects RX7 yX7_readsOrder yX7_readsOrder, Cond.code yX7_readsOrder cX7_readsOrder 1 (some .boolean), Cond.fieldLink RX7 129 "CanyonBallModel" "letter" "I", Cond.methodLink RX7 114 yX7_next, Cond.instanceMethod yX7_next, Cond.selects RX7 yX7_next yX7_next, Cond.code yX7_next cX7_next 1 (some .int), Cond.methodLink RX7 132 yX7_readsCall, Cond.instanceMethod yX7_readsCall, Cond.selects RX7 yX7_readsCall yX7_readsCall, Cond.code yX7_readsCall cX7_readsCall 1 (some .boolean), Cond.fieldLink RX7 120 "CanyonBallModel" "first" "I", Cond.fieldLink RX7 126 "CanyonBallModel" "second" "I"]
def wsL_law0_r20 : List Cond := [Cond.methodLink RX7 117 yX7_digit, Cond.instanceMethod yX7_digit, Cond.selects RX7 yX7_digit yX7_digit, Cond.code yX7_digit cX7_digit 4 (some .int), Cond.methodLink RX7 123 yX7_takes, Cond.instanceMethod yX7_takes, Cond.selects RX7 yX7_takes yX7_takes, Cond.code yX7_takes cX7_takes 3 (some .boolean), Cond.methodLink RX7 136 yX7_readsWalk, Cond.instanceMethod yX7_readsWalk, Cond.selects RX7 yX7_readsWalk yX7_readsWalk, Cond.code yX7_readsWalk cX7_readsWalk 3 (some .boolean), Cond.methodLink RX7 139 yX7_readsTurns, Cond.instanceMethod yX7_readsTurns, Cond.selects RX7 yX7_readsTurns yX7_readsTurns, Cond.code yX7_readsTurns cX7_readsTurns 2 (some .boolean), Cond.methodLink RL 111 yL_run, Cond.static yL_run, Cond.codeWith yL_run cL_run 3 (some .int) [(0, 8, 11, 15)], Cond.methodLink RL 36 yX6_run, Cond.instanceMethod yX6_run, Cond.selects RX6 yX6_run yX6_run, Cond.code yX6_run cX6_run 3 (some .int), Cond.methodLink RX6 130 yX5_isTurns]
def wsL_law0_r21 : List Cond := [Cond.instanceMethod yX5_isTurns, Cond.selects RX5 yX5_isTurns yX5_isTurns, Cond.code yX5_isTurns cX5_isTurns 3 (some .boolean), Cond.methodLink RX6 138 yX5_startsOrder, Cond.instanceMethod yX5_startsOrder, Cond.selects RX5 yX5_startsOrder yX5_startsOrder, Cond.code yX5_startsOrder cX5_startsOrder 2 (some .boolean), Cond.methodLink RX5 37 yX5_codeAt, Cond.instanceMethod yX5_codeAt, Cond.selects RX5 yX5_codeAt yX5_codeAt, Cond.code yX5_codeAt cX5_codeAt 2 (some .int), Cond.methodLink RX6 141 yX6_doOrder, Cond.instanceMethod yX6_doOrder, Cond.selects RX6 yX6_doOrder yX6_doOrder, Cond.code yX6_doOrder cX6_doOrder 3 (some .boolean), Cond.methodLink RX6 221 yX5_codeAt, Cond.methodLink RX6 233 yX5_digitAt, Cond.instanceMethod yX5_digitAt, Cond.selects RX5 yX5_digitAt yX5_digitAt, Cond.code yX5_digitAt cX5_digitAt 2 (some .int), Cond.methodLink RX6 236 yX5_stepsAt, Cond.instanceMethod yX5_stepsAt, Cond.selects RX5 yX5_stepsAt yX5_stepsAt, Cond.code yX5_stepsAt cX5_stepsAt 3 (some .int)]
def wsL_law0_r22 : List Cond := [Cond.methodLink RX5 40 yX5_digitAt, Cond.methodLink RX6 239 yX5_numberAt, Cond.instanceMethod yX5_numberAt, Cond.selects RX5 yX5_numberAt yX5_numberAt, Cond.code yX5_numberAt cX5_numberAt 3 (some .int), Cond.methodLink RL 114 yX7_run, Cond.instanceMethod yX7_run, Cond.selects RX7 yX7_run yX7_run, Cond.code yX7_run cX7_run 3 (some .int), Cond.methodLink RX7 148 yX7_doesOrder, Cond.instanceMethod yX7_doesOrder, Cond.selects RX7 yX7_doesOrder yX7_doesOrder, Cond.code yX7_doesOrder cX7_doesOrder 2 (some .boolean), Cond.methodLink RL 115 yL_keep, Cond.static yL_keep, Cond.codeWith yL_keep cL_keep 4 (some .int) [(0, 9, 12, 15)], Cond.methodLink RL 40 yX6_keep, Cond.instanceMethod yX6_keep, Cond.selects RX6 yX6_keep yX6_keep, Cond.code yX6_keep cX6_keep 2 (some .int), Cond.fieldLink RX6 147 "CanyonBall$Canyon" "clock" "I", Cond.methodLink RX6 144 yX1_copyFrom, Cond.methodLink RL 117 yX7_keep, Cond.instanceMethod yX7_keep]
def wsL_law0_r23 : List Cond := [Cond.selects RX7 yX7_keep yX7_keep, Cond.code yX7_keep cX7_keep 3 (some .int), Cond.methodLink RL 118 yL_goBack, Cond.static yL_goBack, Cond.codeWith yL_goBack cL_goBack 4 (some .int) [(0, 9, 12, 15), (0, 9, 15, 27)], Cond.methodLink RL 43 yX6_goBack, Cond.instanceMethod yX6_goBack, Cond.selects RX6 yX6_goBack yX6_goBack, Cond.code yX6_goBack cX6_goBack 2 (some .int), Cond.methodLink RL 120 yX7_goBack, Cond.instanceMethod yX7_goBack, Cond.selects RX7 yX7_goBack yX7_goBack, Cond.code yX7_goBack cX7_goBack 3 (some .int), Cond.methodLink RL 121 yL_undo, Cond.static yL_undo, Cond.codeWith yL_undo cL_undo 3 (some .int) [(0, 8, 11, 27)], Cond.methodLink RL 46 yX6_undo, Cond.instanceMethod yX6_undo, Cond.selects RX6 yX6_undo yX6_undo, Cond.code yX6_undo cX6_undo 1 (some .int), Cond.fieldLink RX6 152 "CanyonBall$History" "size" "I", Cond.methodLink RX6 157 yX3_restoreLatest, Cond.instanceMethod yX3_restoreLatest, Cond.selects RX3 yX3_restoreLatest yX3_restoreLatest]
def wsL_law0_r24 : List Cond := [Cond.code yX3_restoreLatest cX3_restoreLatest 2 none, Cond.methodLink RL 123 yX7_undo, Cond.instanceMethod yX7_undo, Cond.selects RX7 yX7_undo yX7_undo, Cond.code yX7_undo cX7_undo 2 (some .int), Cond.methodLink RL 124 yL_playerOf, Cond.static yL_playerOf, Cond.codeWith yL_playerOf cL_playerOf 5 (some .int) [(0, 10, 13, 13), (0, 10, 17, 15)], Cond.methodLink RL 49 yX6_playerOf, Cond.instanceMethod yX6_playerOf, Cond.selects RX6 yX6_playerOf yX6_playerOf, Cond.code yX6_playerOf cX6_playerOf 3 (some .int), Cond.methodLink RX6 160 yX1_playerNumber, Cond.instanceMethod yX1_playerNumber, Cond.selects RX1 yX1_playerNumber yX1_playerNumber, Cond.code yX1_playerNumber cX1_playerNumber 3 (some .int), Cond.methodLink RL 126 yX7_playerOf, Cond.instanceMethod yX7_playerOf, Cond.selects RX7 yX7_playerOf yX7_playerOf, Cond.code yX7_playerOf cX7_playerOf 3 (some .int), Cond.methodLink RX7 151 yX7_tellsPlayer, Cond.instanceMethod yX7_tellsPlayer, Cond.selects RX7 yX7_tellsPlayer yX7_tellsPlayer, Cond.code yX7_tellsPlayer cX7_tellsPlayer 3 (some .int)]
def wsL_law0_r25 : List Cond := [Cond.methodLink RL 127 yL_echoOf, Cond.static yL_echoOf, Cond.codeWith yL_echoOf cL_echoOf 5 (some .int) [(0, 10, 13, 15)], Cond.methodLink RL 52 yX6_echoOf, Cond.instanceMethod yX6_echoOf, Cond.selects RX6 yX6_echoOf yX6_echoOf, Cond.code yX6_echoOf cX6_echoOf 3 (some .int), Cond.methodLink RX6 165 yX1_echoNumber, Cond.instanceMethod yX1_echoNumber, Cond.selects RX1 yX1_echoNumber yX1_echoNumber, Cond.code yX1_echoNumber cX1_echoNumber 4 (some .int), Cond.methodLink RL 129 yX7_echoOf, Cond.instanceMethod yX7_echoOf, Cond.selects RX7 yX7_echoOf yX7_echoOf, Cond.code yX7_echoOf cX7_echoOf 3 (some .int), Cond.methodLink RX7 157 yX7_tellsEcho, Cond.instanceMethod yX7_tellsEcho, Cond.selects RX7 yX7_tellsEcho yX7_tellsEcho, Cond.code yX7_tellsEcho cX7_tellsEcho 4 (some .int), Cond.methodLink RX7 154 yX7_echoAt, Cond.instanceMethod yX7_echoAt, Cond.selects RX7 yX7_echoAt yX7_echoAt, Cond.code yX7_echoAt cX7_echoAt 7 (some .int), Cond.methodLink RL 130 yL_count]
def wsL_law0_r26 : List Cond := [Cond.static yL_count, Cond.codeWith yL_count cL_count 4 (some .int) [(0, 9, 12, 15)], Cond.methodLink RL 55 yX6_count, Cond.instanceMethod yX6_count, Cond.selects RX6 yX6_count yX6_count, Cond.code yX6_count cX6_count 2 (some .int), Cond.methodLink RX6 168 yX6_countNumber, Cond.instanceMethod yX6_countNumber, Cond.selects RX6 yX6_countNumber yX6_countNumber, Cond.code yX6_countNumber cX6_countNumber 2 (some .int), Cond.methodLink RX6 242 yX1_number, Cond.instanceMethod yX1_number, Cond.selects RX1 yX1_number yX1_number, Cond.code yX1_number cX1_number 2 (some .int), Cond.fieldLink RX1 159 "CanyonBall$Ball" "speed" "I", Cond.methodLink RX1 162 yX0_rightNumber, Cond.instanceMethod yX0_rightNumber, Cond.selects RX0 yX0_rightNumber yX0_rightNumber, Cond.code yX0_rightNumber cX0_rightNumber 1 (some .int), Cond.methodLink RX1 153 yX1_sumOfPlayers, Cond.instanceMethod yX1_sumOfPlayers, Cond.selects RX1 yX1_sumOfPlayers yX1_sumOfPlayers, Cond.code yX1_sumOfPlayers cX1_sumOfPlayers 4 (some .int), Cond.methodLink RX1 156 yX1_playerNumber]
def wsL_law0_r27 : List Cond := [Cond.methodLink RL 132 yX7_count, Cond.instanceMethod yX7_count, Cond.selects RX7 yX7_count yX7_count, Cond.code yX7_count cX7_count 2 (some .int), Cond.methodLink RX7 163 yX7_tellsCount, Cond.instanceMethod yX7_tellsCount, Cond.selects RX7 yX7_tellsCount yX7_tellsCount, Cond.code yX7_tellsCount cX7_tellsCount 2 (some .int), Cond.methodLink RX7 160 yX7_sum, Cond.instanceMethod yX7_sum, Cond.selects RX7 yX7_sum yX7_sum, Cond.code yX7_sum cX7_sum 4 (some .int), Cond.methodLink RL 133 yL_setting, Cond.static yL_setting, Cond.codeWith yL_setting cL_setting 4 (some .int) [(0, 9, 12, 13)], Cond.methodLink RL 58 yX6_setting, Cond.instanceMethod yX6_setting, Cond.selects RX6 yX6_setting yX6_setting, Cond.code yX6_setting cX6_setting 2 (some .int), Cond.methodLink RL 135 yX7_setting, Cond.instanceMethod yX7_setting, Cond.selects RX7 yX7_setting yX7_setting, Cond.code yX7_setting cX7_setting 2 (some .int), Cond.methodLink RL 136 yL_ballIn]
def wsL_law0_r28 : List Cond := [Cond.static yL_ballIn, Cond.codeWith yL_ballIn cL_ballIn 5 (some .int) [(0, 10, 13, 15)], Cond.methodLink RL 61 yX6_ballIn, Cond.instanceMethod yX6_ballIn, Cond.selects RX6 yX6_ballIn yX6_ballIn, Cond.code yX6_ballIn cX6_ballIn 3 (some .int), Cond.methodLink RX6 171 yX6_ballNumber, Cond.instanceMethod yX6_ballNumber, Cond.selects RX6 yX6_ballNumber yX6_ballNumber, Cond.code yX6_ballNumber cX6_ballNumber 4 (some .int), Cond.methodLink RX6 245 yX0_unfoldedPlaceIn, Cond.instanceMethod yX0_unfoldedPlaceIn, Cond.selects RX0 yX0_unfoldedPlaceIn yX0_unfoldedPlaceIn, Cond.code yX0_unfoldedPlaceIn cX0_unfoldedPlaceIn 6 (some .int), Cond.methodLink RX6 248 yX0_copyFrom, Cond.methodLink RX6 251 yX0_goTurn, Cond.methodLink RX6 254 yX0_rightNumber, Cond.methodLink RL 138 yX7_ballIn, Cond.instanceMethod yX7_ballIn, Cond.selects RX7 yX7_ballIn yX7_ballIn, Cond.code yX7_ballIn cX7_ballIn 3 (some .int), Cond.methodLink RX7 169 yX7_tellsBall, Cond.instanceMethod yX7_tellsBall, Cond.selects RX7 yX7_tellsBall yX7_tellsBall]
def wsL_law0_r29 : List Cond := [Cond.code yX7_tellsBall cX7_tellsBall 4 (some .int), Cond.methodLink RX7 166 yX7_unfolded, Cond.instanceMethod yX7_unfolded, Cond.selects RX7 yX7_unfolded yX7_unfolded, Cond.code yX7_unfolded cX7_unfolded 4 (some .int), Cond.methodLink RL 139 yL_echoIn, Cond.static yL_echoIn, Cond.codeWith yL_echoIn cL_echoIn 5 (some .int) [(0, 10, 13, 13), (0, 10, 17, 15)], Cond.methodLink RL 64 yX6_echoIn, Cond.instanceMethod yX6_echoIn, Cond.selects RX6 yX6_echoIn yX6_echoIn, Cond.code yX6_echoIn cX6_echoIn 3 (some .int), Cond.fieldLink RX6 174 "CanyonBall$Canyon" "players" "[LCanyonBall$Player;", Cond.fieldLink RX6 178 "CanyonBall$Player" "place" "I", Cond.methodLink RX6 181 yX1_echoTime, Cond.methodLink RL 141 yX7_echoIn, Cond.instanceMethod yX7_echoIn, Cond.selects RX7 yX7_echoIn yX7_echoIn, Cond.code yX7_echoIn cX7_echoIn 3 (some .int), Cond.methodLink RX7 172 yX7_delayOf, Cond.instanceMethod yX7_delayOf, Cond.selects RX7 yX7_delayOf yX7_delayOf, Cond.code yX7_delayOf cX7_delayOf 3 (some .int), Cond.methodLink RL 142 yL_wouldClash]
def wsL_law0_r30 : List Cond := [Cond.static yL_wouldClash, Cond.codeWith yL_wouldClash cL_wouldClash 5 (some .int) [(0, 10, 13, 13), (0, 10, 17, 15)], Cond.methodLink RL 67 yX6_wouldClash, Cond.instanceMethod yX6_wouldClash, Cond.selects RX6 yX6_wouldClash yX6_wouldClash, Cond.code yX6_wouldClash cX6_wouldClash 3 (some .int), Cond.methodLink RX6 184 yX1_newEchoClashes, Cond.instanceMethod yX1_newEchoClashes, Cond.selects RX1 yX1_newEchoClashes yX1_newEchoClashes, Cond.code yX1_newEchoClashes cX1_newEchoClashes 5 (some .boolean), Cond.methodLink RX1 140 yX1_isEchoDue, Cond.instanceMethod yX1_isEchoDue, Cond.selects RX1 yX1_isEchoDue yX1_isEchoDue, Cond.code yX1_isEchoDue cX1_isEchoDue 4 (some .boolean), Cond.methodLink RL 144 yX7_wouldClash, Cond.instanceMethod yX7_wouldClash, Cond.selects RX7 yX7_wouldClash yX7_wouldClash, Cond.code yX7_wouldClash cX7_wouldClash 3 (some .int), Cond.methodLink RX7 175 yX7_isClash, Cond.instanceMethod yX7_isClash, Cond.selects RX7 yX7_isClash yX7_isClash, Cond.code yX7_isClash cX7_isClash 6 (some .boolean), Cond.methodLink RL 145 yL_callIn, Cond.static yL_callIn]
def wsL_law0_r31 : List Cond := [Cond.codeWith yL_callIn cL_callIn 4 (some .int) [(0, 9, 12, 13)], Cond.methodLink RL 70 yX6_callIn, Cond.instanceMethod yX6_callIn, Cond.selects RX6 yX6_callIn yX6_callIn, Cond.code yX6_callIn cX6_callIn 2 (some .int), Cond.methodLink RX6 188 yX1_turnsToWait, Cond.instanceMethod yX1_turnsToWait, Cond.selects RX1 yX1_turnsToWait yX1_turnsToWait, Cond.code yX1_turnsToWait cX1_turnsToWait 6 (some .int), Cond.methodLink RX1 143 yX1_meetsBallAlone, Cond.instanceMethod yX1_meetsBallAlone, Cond.selects RX1 yX1_meetsBallAlone yX1_meetsBallAlone, Cond.code yX1_meetsBallAlone cX1_meetsBallAlone 3 (some .boolean), Cond.methodLink RX1 146 yX0_unfoldedPlaceIn, Cond.methodLink RL 147 yX7_callIn, Cond.instanceMethod yX7_callIn, Cond.selects RX7 yX7_callIn yX7_callIn, Cond.code yX7_callIn cX7_callIn 2 (some .int), Cond.methodLink RX7 181 yX7_bestWait, Cond.instanceMethod yX7_bestWait, Cond.selects RX7 yX7_bestWait yX7_bestWait, Cond.code yX7_bestWait cX7_bestWait 3 (some .int), Cond.methodLink RX7 178 yX7_meetsBall, Cond.instanceMethod yX7_meetsBall]
def wsL_law0_r32 : List Cond := [Cond.selects RX7 yX7_meetsBall yX7_meetsBall, Cond.code yX7_meetsBall cX7_meetsBall 5 (some .boolean), Cond.methodLink RL 148 yX6_quietIn, Cond.instanceMethod yX6_quietIn, Cond.selects RX6 yX6_quietIn yX6_quietIn, Cond.code yX6_quietIn cX6_quietIn 1 (some .int), Cond.methodLink RX6 191 yX1_turnsToQuiet, Cond.instanceMethod yX1_turnsToQuiet, Cond.selects RX1 yX1_turnsToQuiet yX1_turnsToQuiet, Cond.code yX1_turnsToQuiet cX1_turnsToQuiet 1 (some .int), Cond.methodLink RL 151 yX7_quietIn, Cond.instanceMethod yX7_quietIn, Cond.selects RX7 yX7_quietIn yX7_quietIn, Cond.code yX7_quietIn cX7_quietIn 1 (some .int), Cond.methodLink RX7 184 yX7_tellsQuiet, Cond.instanceMethod yX7_tellsQuiet, Cond.selects RX7 yX7_tellsQuiet yX7_tellsQuiet, Cond.code yX7_tellsQuiet cX7_tellsQuiet 3 (some .int), Cond.methodLink RL 152 yX6_best, Cond.instanceMethod yX6_best, Cond.selects RX6 yX6_best yX6_best, Cond.code yX6_best cX6_best 1 (some .int), Cond.methodLink RX6 194 yX1_bestPlayer, Cond.instanceMethod yX1_bestPlayer]
def wsL_law0_r33 : List Cond := [Cond.selects RX1 yX1_bestPlayer yX1_bestPlayer, Cond.code yX1_bestPlayer cX1_bestPlayer 3 (some .int), Cond.methodLink RX1 149 yX4_isBetterThan, Cond.instanceMethod yX4_isBetterThan, Cond.selects RX4 yX4_isBetterThan yX4_isBetterThan, Cond.code yX4_isBetterThan cX4_isBetterThan 2 (some .boolean), Cond.methodLink RL 155 yX7_best, Cond.instanceMethod yX7_best, Cond.selects RX7 yX7_best yX7_best, Cond.code yX7_best cX7_best 1 (some .int), Cond.methodLink RX7 187 yX7_tellsBest, Cond.instanceMethod yX7_tellsBest, Cond.selects RX7 yX7_tellsBest yX7_tellsBest, Cond.code yX7_tellsBest cX7_tellsBest 5 (some .int), Cond.methodLink RL 156 yX6_answeredShare, Cond.instanceMethod yX6_answeredShare, Cond.selects RX6 yX6_answeredShare yX6_answeredShare, Cond.code yX6_answeredShare cX6_answeredShare 1 (some .double), Cond.methodLink RX6 197 yX1_shareAnswered, Cond.instanceMethod yX1_shareAnswered, Cond.selects RX1 yX1_shareAnswered yX1_shareAnswered, Cond.code yX1_shareAnswered cX1_shareAnswered 3 (some .double), Cond.methodLink RL 160 yX7_answeredShare, Cond.instanceMethod yX7_answeredShare]
def wsL_law0_r34 : List Cond := [Cond.selects RX7 yX7_answeredShare yX7_answeredShare, Cond.code yX7_answeredShare cX7_answeredShare 1 (some .double), Cond.methodLink RX7 190 yX7_share, Cond.instanceMethod yX7_share, Cond.selects RX7 yX7_share yX7_share, Cond.code yX7_share cX7_share 2 (some .double), Cond.methodLink RL 161 yX6_digest, Cond.instanceMethod yX6_digest, Cond.selects RX6 yX6_digest yX6_digest, Cond.code yX6_digest cX6_digest 5 (some .long), Cond.constantLong RX6 201 (3467), Cond.fieldLink RX6 211 "CanyonBall$Canyon" "echoCount" "I", Cond.methodLink RX6 203 yX6_mixed, Cond.static yX6_mixed, Cond.code yX6_mixed cX6_mixed 4 (some .long), Cond.constantLong RX6 257 (31), Cond.methodLink RX6 207 yX6_mixedWithPlayer, Cond.instanceMethod yX6_mixedWithPlayer, Cond.selects RX6 yX6_mixedWithPlayer yX6_mixedWithPlayer, Cond.code yX6_mixedWithPlayer cX6_mixedWithPlayer 7 (some .long), Cond.methodLink RX6 214 yX6_mixedWithBall, Cond.instanceMethod yX6_mixedWithBall, Cond.selects RX6 yX6_mixedWithBall yX6_mixedWithBall, Cond.code yX6_mixedWithBall cX6_mixedWithBall 7 (some .long)]
def wsL_law0_r35 : List Cond := [Cond.methodLink RX6 217 yX6_bitsOf, Cond.static yX6_bitsOf, Cond.code yX6_bitsOf cX6_bitsOf 7 (some .long), Cond.constantDouble RX6 259 (4611686018427387904), Cond.constantDouble RX6 261 (4841369599423283200), Cond.methodLink RL 165 yX7_digest, Cond.instanceMethod yX7_digest, Cond.selects RX7 yX7_digest yX7_digest, Cond.code yX7_digest cX7_digest 3 (some .long), Cond.constantLong RX7 204 (3467), Cond.fieldLink RX7 196 "CanyonBallModel" "hash" "J", Cond.methodLink RX7 200 yX7_mix, Cond.instanceMethod yX7_mix, Cond.selects RX7 yX7_mix yX7_mix, Cond.code yX7_mix cX7_mix 3 none, Cond.constantLong RX7 194 (31), Cond.methodLink RX7 206 yX7_mixPlayer, Cond.instanceMethod yX7_mixPlayer, Cond.selects RX7 yX7_mixPlayer yX7_mixPlayer, Cond.code yX7_mixPlayer cX7_mixPlayer 3 none, Cond.methodLink RX7 209 yJxe99ae_doubleToLongBits_ccdee, Cond.static yJxe99ae_doubleToLongBits_ccdee, Cond.initialized RJxe99ae, Cond.code yJxe99ae_doubleToLongBits_ccdee cJxe99ae_doubleToLongBits_ccdee 2 (some .long)]
def wsL_law0_r36 : List Cond := [Cond.methodLink RJxe99ae 134 ⟨"java/lang/Double", "doubleToRawLongBits", "(D)J"⟩, Cond.native ⟨"java/lang/Double", "doubleToRawLongBits", "(D)J"⟩, Cond.static ⟨"java/lang/Double", "doubleToRawLongBits", "(D)J"⟩, Cond.initialized "java/lang/Double", Cond.constantLong RJxe99ae 137 (9221120237041090560), Cond.methodLink RJxe99ae 122 yJxe99ae_isNaN_b9ae7, Cond.static yJxe99ae_isNaN_b9ae7, Cond.code yJxe99ae_isNaN_b9ae7 cJxe99ae_isNaN_b9ae7 2 (some .boolean)]
def wsL_law0 : List Cond := (wsL_law0_r1 ++ (wsL_law0_r2 ++ (wsL_law0_r3 ++ (wsL_law0_r4 ++ (wsL_law0_r5 ++ (wsL_law0_r6 ++ (wsL_law0_r7 ++ (wsL_law0_r8 ++ (wsL_law0_r9 ++ (wsL_law0_r10 ++ (wsL_law0_r11 ++ (wsL_law0_r12 ++ (wsL_law0_r13 ++ (wsL_law0_r14 ++ (wsL_law0_r15 ++ (wsL_law0_r16 ++ (wsL_law0_r17 ++ (wsL_law0_r18 ++ (wsL_law0_r19 ++ (wsL_law0_r20 ++ (wsL_law0_r21 ++ (wsL_law0_r22 ++ (wsL_law0_r23 ++ (wsL_law0_r24 ++ (wsL_law0_r25 ++ (wsL_law0_r26 ++ (wsL_law0_r27 ++ (wsL_law0_r28 ++ (wsL_law0_r29 ++ (wsL_law0_r30 ++ (wsL_law0_r31 ++ (wsL_law0_r32 ++ (wsL_law0_r33 ++ (wsL_law0_r34 ++ (wsL_law0_r35 ++ wsL_law0_r36))))))))))))))))))))))))))))))))))) ++ wsX60 ++ wsX70 ++ wsX10 ++ wsX30 ++ wsX50 ++ wsX00 ++ wsX40 ++ wsX20 ++ ([] : List Cond)
def wsL_law : List Cond := wsL_law0 ++ (vx_atS RX6 228 "java/lang/IndexOutOfBoundsException" ["java/lang/RuntimeException", "java/lang/Exception"]).filter goodWord ++ (vx_atS RX6 137 "java/lang/IllegalArgumentException" ["java/lang/RuntimeException", "java/lang/Exception"]).filter goodWord ++ (vx_atS RX6 99 "java/lang/IllegalStateException" ["java/lang/RuntimeException", "java/lang/Exception"]).filter goodWord
theorem inlX0 : ∀ w ∈ wsX00, w ∈ wsL_law := fun _ h => List.mem_append_left _ (List.mem_append_left _ (List.mem_append_left _ (List.mem_append_left _ (List.mem_append_left _ (List.mem_append_left _ (List.mem_append_right _ h))))))
theorem inlX1 : ∀ w ∈ wsX10, w ∈ wsL_law := fun _ h => List.mem_append_left _ (List.mem_append_left _ (List.mem_append_left _ (List.mem_append_left _ (List.mem_append_left _ (List.mem_append_left _ (List.mem_append_left _ (List.mem_append_left _ (List.mem_append_left _ (List.mem_append_right _ h)))))))))
theorem inlX2 : ∀ w ∈ wsX20, w ∈ wsL_law := fun _ h => List.mem_append_left _ (List.mem_append_left _ (List.mem_append_left _ (List.mem_append_left _ (List.mem_append_right _ h))))
theorem inlX3 : ∀ w ∈ wsX30, w ∈ wsL_law := fun _ h => List.mem_append_left _ (List.mem_append_left _ (List.mem_append_left _ (List.mem_append_left _ (List.mem_append_left _ (List.mem_append_left _ (List.mem_append_left _ (List.mem_append_left _ (List.mem_append_right _ h))))))))
theorem inlX4 : ∀ w ∈ wsX40, w ∈ wsL_law := fun _ h => List.mem_append_left _ (List.mem_append_left _ (List.mem_append_left _ (List.mem_append_left _ (List.mem_append_left _ (List.mem_append_right _ h)))))
theorem inlX5 : ∀ w ∈ wsX50, w ∈ wsL_law := fun _ h => List.mem_append_left _ (List.mem_append_left _ (List.mem_append_left _ (List.mem_append_left _ (List.mem_append_left _ (List.mem_append_left _ (List.mem_append_left _ (List.mem_append_right _ h)))))))
theorem inlX6 : ∀ w ∈ wsX60, w ∈ wsL_law := fun _ h => List.mem_append_left _ (List.mem_append_left _ (List.mem_append_left _ (List.mem_append_left _ (List.mem_append_left _ (List.mem_append_left _ (List.mem_append_left _ (List.mem_append_left _ (List.mem_append_left _ (List.mem_append_left _ (List.mem_append_left _ (List.mem_append_right _ h)))))))))))
theorem inlX7 : ∀ w ∈ wsX70, w ∈ wsL_law := fun _ h => List.mem_append_left _ (List.mem_append_left _ (List.mem_append_left _ (List.mem_append_left _ (List.mem_append_left _ (List.mem_append_left _ (List.mem_append_left _ (List.mem_append_left _ (List.mem_append_left _ (List.mem_append_left _ (List.mem_append_right _ h))))))))))
abbrev vwCl : List vw_C := [(RX0, TX0, 3), (RX1, TX1, 7), (RX2, TX2, 5), (RX3, TX3, 2), (RX4, TX4, 6), (RX5, TX5, 2), (RX6, TX6, 6), (RX7, TX7, 15)]
end
section
theorem dX0_init_0 : decode cX0_init 0 = .ok (.aload_n 0, 1) := by decide +kernel
theorem dX0_init_1 : decode cX0_init 1 = .ok (.invokespecial 3, 3) := by decide +kernel
theorem dX0_init_4 : decode cX0_init 4 = .ok (.aload_n 0, 1) := by decide +kernel
theorem dX0_init_5 : decode cX0_init 5 = .ok (.iconst 1, 1) := by decide +kernel
theorem dX0_init_6 : decode cX0_init 6 = .ok (.putfield 9, 3) := by decide +kernel
theorem dX0_init_9 : decode cX0_init 9 = .ok (.aload_n 0, 1) := by decide +kernel
theorem dX0_init_10 : decode cX0_init 10 = .ok (.iconst 1, 1) := by decide +kernel
theorem dX0_init_11 : decode cX0_init 11 = .ok (.putfield 15, 3) := by decide +kernel
theorem dX0_init_14 : decode cX0_init 14 = .ok (.return_, 1) := by decide +kernel
theorem dX0_copyFrom_0 : decode cX0_copyFrom 0 = .ok (.aload_n 0, 1) := by decide +kernel
theorem dX0_copyFrom_1 : decode cX0_copyFrom 1 = .ok (.aload_n 1, 1) := by decide +kernel
theorem dX0_copyFrom_2 : decode cX0_copyFrom 2 = .ok (.getfield 19, 3) := by decide +kernel
theorem dX0_copyFrom_5 : decode cX0_copyFrom 5 = .ok (.putfield 19, 3) := by decide +kernel
theorem dX0_copyFrom_8 : decode cX0_copyFrom 8 = .ok (.aload_n 0, 1) := by decide +kernel
theorem dX0_copyFrom_9 : decode cX0_copyFrom 9 = .ok (.aload_n 1, 1) := by decide +kernel
theorem dX0_copyFrom_10 : decode cX0_copyFrom 10 = .ok (.getfield 9, 3) := by decide +kernel
theorem dX0_copyFrom_13 : decode cX0_copyFrom 13 = .ok (.putfield 9, 3) := by decide +kernel
theorem dX0_copyFrom_16 : decode cX0_copyFrom 16 = .ok (.aload_n 0, 1) := by decide +kernel
theorem dX0_copyFrom_17 : decode cX0_copyFrom 17 = .ok (.aload_n 1, 1) := by decide +kernel
theorem dX0_copyFrom_18 : decode cX0_copyFrom 18 = .ok (.getfield 15, 3) := by decide +kernel
theorem dX0_copyFrom_21 : decode cX0_copyFrom 21 = .ok (.putfield 15, 3) := by decide +kernel
theorem dX0_copyFrom_24 : decode cX0_copyFrom 24 = .ok (.return_, 1) := by decide +kernel
theorem dX0_rightNumber_0 : decode cX0_rightNumber 0 = .ok (.aload_n 0, 1) := by decide +kernel
theorem dX0_rightNumber_1 : decode cX0_rightNumber 1 = .ok (.getfield 15, 3) := by decide +kernel
theorem dX0_rightNumber_4 : decode cX0_rightNumber 4 = .ok (.ifCond .eq 7, 3) := by decide +kernel
theorem dX0_rightNumber_7 : decode cX0_rightNumber 7 = .ok (.iconst 1, 1) := by decide +kernel
theorem dX0_rightNumber_8 : decode cX0_rightNumber 8 = .ok (.goto 4, 3) := by decide +kernel
theorem dX0_rightNumber_11 : decode cX0_rightNumber 11 = .ok (.iconst 0, 1) := by decide +kernel
theorem dX0_rightNumber_12 : decode cX0_rightNumber 12 = .ok (.ireturn, 1) := by decide +kernel
theorem dX0_goTurn_0 : decode cX0_goTurn 0 = .ok (.iconst 0, 1) := by decide +kernel
theorem dX0_goTurn_1 : decode cX0_goTurn 1 = .ok (.istore_n 2, 1) := by decide +kernel
theorem dX0_goTurn_2 : decode cX0_goTurn 2 = .ok (.iload_n 2, 1) := by decide +kernel
theorem dX0_goTurn_3 : decode cX0_goTurn 3 = .ok (.aload_n 0, 1) := by decide +kernel
theorem dX0_goTurn_4 : decode cX0_goTurn 4 = .ok (.getfield 9, 3) := by decide +kernel
theorem dX0_goTurn_7 : decode cX0_goTurn 7 = .ok (.if_icmp .ge 14, 3) := by decide +kernel
theorem dX0_goTurn_10 : decode cX0_goTurn 10 = .ok (.aload_n 0, 1) := by decide +kernel
theorem dX0_goTurn_11 : decode cX0_goTurn 11 = .ok (.iload_n 1, 1) := by decide +kernel
theorem dX0_goTurn_12 : decode cX0_goTurn 12 = .ok (.invokevirtual 22, 3) := by decide +kernel
theorem dX0_goTurn_15 : decode cX0_goTurn 15 = .ok (.iinc 2 1, 3) := by decide +kernel
theorem dX0_goTurn_18 : decode cX0_goTurn 18 = .ok (.goto (-16), 3) := by decide +kernel
theorem dX0_goTurn_21 : decode cX0_goTurn 21 = .ok (.return_, 1) := by decide +kernel
theorem dX0_goStep_0 : decode cX0_goStep 0 = .ok (.aload_n 0, 1) := by decide +kernel
theorem dX0_goStep_1 : decode cX0_goStep 1 = .ok (.getfield 15, 3) := by decide +kernel
theorem dX0_goStep_4 : decode cX0_goStep 4 = .ok (.ifCond .eq 14, 3) := by decide +kernel
theorem dX0_goStep_7 : decode cX0_goStep 7 = .ok (.aload_n 0, 1) := by decide +kernel
theorem dX0_goStep_8 : decode cX0_goStep 8 = .ok (.getfield 19, 3) := by decide +kernel
theorem dX0_goStep_11 : decode cX0_goStep 11 = .ok (.iload_n 1, 1) := by decide +kernel
theorem dX0_goStep_12 : decode cX0_goStep 12 = .ok (.if_icmp .lt 29, 3) := by decide +kernel
theorem dX0_goStep_15 : decode cX0_goStep 15 = .ok (.goto 10, 3) := by decide +kernel
theorem dX0_goStep_18 : decode cX0_goStep 18 = .ok (.aload_n 0, 1) := by decide +kernel
theorem dX0_goStep_19 : decode cX0_goStep 19 = .ok (.getfield 19, 3) := by decide +kernel
theorem dX0_goStep_22 : decode cX0_goStep 22 = .ok (.ifCond .gt 19, 3) := by decide +kernel
theorem dX0_goStep_25 : decode cX0_goStep 25 = .ok (.aload_n 0, 1) := by decide +kernel
theorem dX0_goStep_26 : decode cX0_goStep 26 = .ok (.aload_n 0, 1) := by decide +kernel
theorem dX0_goStep_27 : decode cX0_goStep 27 = .ok (.getfield 15, 3) := by decide +kernel
theorem dX0_goStep_30 : decode cX0_goStep 30 = .ok (.ifCond .ne 7, 3) := by decide +kernel
theorem dX0_goStep_33 : decode cX0_goStep 33 = .ok (.iconst 1, 1) := by decide +kernel
theorem dX0_goStep_34 : decode cX0_goStep 34 = .ok (.goto 4, 3) := by decide +kernel
theorem dX0_goStep_37 : decode cX0_goStep 37 = .ok (.iconst 0, 1) := by decide +kernel
theorem dX0_goStep_38 : decode cX0_goStep 38 = .ok (.putfield 15, 3) := by decide +kernel
theorem dX0_goStep_41 : decode cX0_goStep 41 = .ok (.aload_n 0, 1) := by decide +kernel
theorem dX0_goStep_42 : decode cX0_goStep 42 = .ok (.dup, 1) := by decide +kernel
theorem dX0_goStep_43 : decode cX0_goStep 43 = .ok (.getfield 19, 3) := by decide +kernel
theorem dX0_goStep_46 : decode cX0_goStep 46 = .ok (.aload_n 0, 1) := by decide +kernel
theorem dX0_goStep_47 : decode cX0_goStep 47 = .ok (.getfield 15, 3) := by decide +kernel
theorem dX0_goStep_50 : decode cX0_goStep 50 = .ok (.ifCond .eq 7, 3) := by decide +kernel
theorem dX0_goStep_53 : decode cX0_goStep 53 = .ok (.iconst 1, 1) := by decide +kernel
theorem dX0_goStep_54 : decode cX0_goStep 54 = .ok (.goto 4, 3) := by decide +kernel
theorem dX0_goStep_57 : decode cX0_goStep 57 = .ok (.iconst (-1), 1) := by decide +kernel
theorem dX0_goStep_58 : decode cX0_goStep 58 = .ok (.iadd, 1) := by decide +kernel
theorem dX0_goStep_59 : decode cX0_goStep 59 = .ok (.putfield 19, 3) := by decide +kernel
theorem dX0_goStep_62 : decode cX0_goStep 62 = .ok (.return_, 1) := by decide +kernel
theorem dX0_unfoldedPlaceIn_0 : decode cX0_unfoldedPlaceIn 0 = .ok (.iconst 2, 1) := by decide +kernel
theorem dX0_unfoldedPlaceIn_1 : decode cX0_unfoldedPlaceIn 1 = .ok (.iload_n 2, 1) := by decide +kernel
theorem dX0_unfoldedPlaceIn_2 : decode cX0_unfoldedPlaceIn 2 = .ok (.iconst 1, 1) := by decide +kernel
theorem dX0_unfoldedPlaceIn_3 : decode cX0_unfoldedPlaceIn 3 = .ok (.invokestatic 26, 3) := by decide +kernel
theorem dX0_unfoldedPlaceIn_6 : decode cX0_unfoldedPlaceIn 6 = .ok (.imul, 1) := by decide +kernel
theorem dX0_unfoldedPlaceIn_7 : decode cX0_unfoldedPlaceIn 7 = .ok (.istore_n 3, 1) := by decide +kernel
theorem dX0_unfoldedPlaceIn_8 : decode cX0_unfoldedPlaceIn 8 = .ok (.aload_n 0, 1) := by decide +kernel
theorem dX0_unfoldedPlaceIn_9 : decode cX0_unfoldedPlaceIn 9 = .ok (.getfield 15, 3) := by decide +kernel
theorem dX0_unfoldedPlaceIn_12 : decode cX0_unfoldedPlaceIn 12 = .ok (.ifCond .eq 10, 3) := by decide +kernel
theorem dX0_unfoldedPlaceIn_15 : decode cX0_unfoldedPlaceIn 15 = .ok (.aload_n 0, 1) := by decide +kernel
theorem dX0_unfoldedPlaceIn_16 : decode cX0_unfoldedPlaceIn 16 = .ok (.getfield 19, 3) := by decide +kernel
theorem dX0_unfoldedPlaceIn_19 : decode cX0_unfoldedPlaceIn 19 = .ok (.goto 9, 3) := by decide +kernel
theorem dX0_unfoldedPlaceIn_22 : decode cX0_unfoldedPlaceIn 22 = .ok (.iload_n 3, 1) := by decide +kernel
theorem dX0_unfoldedPlaceIn_23 : decode cX0_unfoldedPlaceIn 23 = .ok (.aload_n 0, 1) := by decide +kernel
theorem dX0_unfoldedPlaceIn_24 : decode cX0_unfoldedPlaceIn 24 = .ok (.getfield 19, 3) := by decide +kernel
theorem dX0_unfoldedPlaceIn_27 : decode cX0_unfoldedPlaceIn 27 = .ok (.isub, 1) := by decide +kernel
theorem dX0_unfoldedPlaceIn_28 : decode cX0_unfoldedPlaceIn 28 = .ok (.istore 4, 2) := by decide +kernel
theorem dX0_unfoldedPlaceIn_30 : decode cX0_unfoldedPlaceIn 30 = .ok (.iload 4, 2) := by decide +kernel
theorem dX0_unfoldedPlaceIn_32 : decode cX0_unfoldedPlaceIn 32 = .ok (.aload_n 0, 1) := by decide +kernel
theorem dX0_unfoldedPlaceIn_33 : decode cX0_unfoldedPlaceIn 33 = .ok (.getfield 9, 3) := by decide +kernel
theorem dX0_unfoldedPlaceIn_36 : decode cX0_unfoldedPlaceIn 36 = .ok (.iload_n 1, 1) := by decide +kernel
theorem dX0_unfoldedPlaceIn_37 : decode cX0_unfoldedPlaceIn 37 = .ok (.imul, 1) := by decide +kernel
theorem dX0_unfoldedPlaceIn_38 : decode cX0_unfoldedPlaceIn 38 = .ok (.iadd, 1) := by decide +kernel
theorem dX0_unfoldedPlaceIn_39 : decode cX0_unfoldedPlaceIn 39 = .ok (.iload_n 3, 1) := by decide +kernel
theorem dX0_unfoldedPlaceIn_40 : decode cX0_unfoldedPlaceIn 40 = .ok (.irem, 1) := by decide +kernel
theorem dX0_unfoldedPlaceIn_41 : decode cX0_unfoldedPlaceIn 41 = .ok (.istore 5, 2) := by decide +kernel
theorem dX0_unfoldedPlaceIn_43 : decode cX0_unfoldedPlaceIn 43 = .ok (.iload 5, 2) := by decide +kernel
theorem dX0_unfoldedPlaceIn_45 : decode cX0_unfoldedPlaceIn 45 = .ok (.iload_n 2, 1) := by decide +kernel
theorem dX0_unfoldedPlaceIn_46 : decode cX0_unfoldedPlaceIn 46 = .ok (.if_icmp .gt 8, 3) := by decide +kernel
theorem dX0_unfoldedPlaceIn_49 : decode cX0_unfoldedPlaceIn 49 = .ok (.iload 5, 2) := by decide +kernel
theorem dX0_unfoldedPlaceIn_51 : decode cX0_unfoldedPlaceIn 51 = .ok (.goto 7, 3) := by decide +kernel
theorem dX0_unfoldedPlaceIn_54 : decode cX0_unfoldedPlaceIn 54 = .ok (.iload_n 3, 1) := by decide +kernel
theorem dX0_unfoldedPlaceIn_55 : decode cX0_unfoldedPlaceIn 55 = .ok (.iload 5, 2) := by decide +kernel
theorem dX0_unfoldedPlaceIn_57 : decode cX0_unfoldedPlaceIn 57 = .ok (.isub, 1) := by decide +kernel
theorem dX0_unfoldedPlaceIn_58 : decode cX0_unfoldedPlaceIn 58 = .ok (.ireturn, 1) := by decide +kernel
theorem dX0_followWord_0 : decode cX0_followWord 0 = .ok (.iload_n 1, 1) := by decide +kernel
theorem dX0_followWord_1 : decode cX0_followWord 1 = .ok (.iconst 3, 1) := by decide +kernel
theorem dX0_followWord_2 : decode cX0_followWord 2 = .ok (.irem, 1) := by decide +kernel
theorem dX0_followWord_3 : decode cX0_followWord 3 = .ok (.lookupswitch 62 #[(0, 25), (1, 44)], 25) := by decide +kernel
theorem dX0_followWord_28 : decode cX0_followWord 28 = .ok (.aload_n 0, 1) := by decide +kernel
theorem dX0_followWord_29 : decode cX0_followWord 29 = .ok (.aload_n 0, 1) := by decide +kernel
theorem dX0_followWord_30 : decode cX0_followWord 30 = .ok (.getfield 15, 3) := by decide +kernel
theorem dX0_followWord_33 : decode cX0_followWord 33 = .ok (.ifCond .ne 7, 3) := by decide +kernel
theorem dX0_followWord_36 : decode cX0_followWord 36 = .ok (.iconst 1, 1) := by decide +kernel
theorem dX0_followWord_37 : decode cX0_followWord 37 = .ok (.goto 4, 3) := by decide +kernel
theorem dX0_followWord_40 : decode cX0_followWord 40 = .ok (.iconst 0, 1) := by decide +kernel
theorem dX0_followWord_41 : decode cX0_followWord 41 = .ok (.putfield 15, 3) := by decide +kernel
theorem dX0_followWord_44 : decode cX0_followWord 44 = .ok (.goto 35, 3) := by decide +kernel
theorem dX0_followWord_47 : decode cX0_followWord 47 = .ok (.aload_n 0, 1) := by decide +kernel
theorem dX0_followWord_48 : decode cX0_followWord 48 = .ok (.aload_n 0, 1) := by decide +kernel
theorem dX0_followWord_49 : decode cX0_followWord 49 = .ok (.getfield 9, 3) := by decide +kernel
theorem dX0_followWord_52 : decode cX0_followWord 52 = .ok (.iconst 1, 1) := by decide +kernel
theorem dX0_followWord_53 : decode cX0_followWord 53 = .ok (.iadd, 1) := by decide +kernel
theorem dX0_followWord_54 : decode cX0_followWord 54 = .ok (.bipush 9, 2) := by decide +kernel
theorem dX0_followWord_56 : decode cX0_followWord 56 = .ok (.invokestatic 32, 3) := by decide +kernel
theorem dX0_followWord_59 : decode cX0_followWord 59 = .ok (.putfield 9, 3) := by decide +kernel
theorem dX0_followWord_62 : decode cX0_followWord 62 = .ok (.goto 17, 3) := by decide +kernel
theorem dX0_followWord_65 : decode cX0_followWord 65 = .ok (.aload_n 0, 1) := by decide +kernel
theorem dX0_followWord_66 : decode cX0_followWord 66 = .ok (.aload_n 0, 1) := by decide +kernel
theorem dX0_followWord_67 : decode cX0_followWord 67 = .ok (.getfield 9, 3) := by decide +kernel
theorem dX0_followWord_70 : decode cX0_followWord 70 = .ok (.iconst 1, 1) := by decide +kernel
theorem dX0_followWord_71 : decode cX0_followWord 71 = .ok (.isub, 1) := by decide +kernel
theorem dX0_followWord_72 : decode cX0_followWord 72 = .ok (.iconst 1, 1) := by decide +kernel
theorem dX0_followWord_73 : decode cX0_followWord 73 = .ok (.invokestatic 26, 3) := by decide +kernel
theorem dX0_followWord_76 : decode cX0_followWord 76 = .ok (.putfield 9, 3) := by decide +kernel
theorem dX0_followWord_79 : decode cX0_followWord 79 = .ok (.return_, 1) := by decide +kernel
theorem dX1_init_0 : decode cX1_init 0 = .ok (.aload_n 0, 1) := by decide +kernel
theorem dX1_init_1 : decode cX1_init 1 = .ok (.invokespecial 3, 3) := by decide +kernel
theorem dX1_init_4 : decode cX1_init 4 = .ok (.aload_n 0, 1) := by decide +kernel
theorem dX1_init_5 : decode cX1_init 5 = .ok (.iconst 3, 1) := by decide +kernel
theorem dX1_init_6 : decode cX1_init 6 = .ok (.newarray .int, 2) := by decide +kernel
theorem dX1_init_8 : decode cX1_init 8 = .ok (.putfield 9, 3) := by decide +kernel
theorem dX1_init_11 : decode cX1_init 11 = .ok (.aload_n 0, 1) := by decide +kernel
theorem dX1_init_12 : decode cX1_init 12 = .ok (.new 15, 3) := by decide +kernel
theorem dX1_init_15 : decode cX1_init 15 = .ok (.dup, 1) := by decide +kernel
theorem dX1_init_16 : decode cX1_init 16 = .ok (.invokespecial 17, 3) := by decide +kernel
theorem dX1_init_19 : decode cX1_init 19 = .ok (.putfield 18, 3) := by decide +kernel
theorem dX1_init_22 : decode cX1_init 22 = .ok (.aload_n 0, 1) := by decide +kernel
theorem dX1_init_23 : decode cX1_init 23 = .ok (.iconst 4, 1) := by decide +kernel
theorem dX1_init_24 : decode cX1_init 24 = .ok (.anewarray 22, 3) := by decide +kernel
theorem dX1_init_27 : decode cX1_init 27 = .ok (.putfield 24, 3) := by decide +kernel
theorem dX1_init_30 : decode cX1_init 30 = .ok (.aload_n 0, 1) := by decide +kernel
theorem dX1_init_31 : decode cX1_init 31 = .ok (.bipush 24, 2) := by decide +kernel
theorem dX1_init_33 : decode cX1_init 33 = .ok (.anewarray 28, 3) := by decide +kernel
theorem dX1_init_36 : decode cX1_init 36 = .ok (.putfield 30, 3) := by decide +kernel
theorem dX1_init_39 : decode cX1_init 39 = .ok (.iconst 0, 1) := by decide +kernel
theorem dX1_init_40 : decode cX1_init 40 = .ok (.istore_n 1, 1) := by decide +kernel
theorem dX1_init_41 : decode cX1_init 41 = .ok (.iload_n 1, 1) := by decide +kernel
theorem dX1_init_42 : decode cX1_init 42 = .ok (.iconst 3, 1) := by decide +kernel
theorem dX1_init_43 : decode cX1_init 43 = .ok (.if_icmp .ge 20, 3) := by decide +kernel
theorem dX1_init_46 : decode cX1_init 46 = .ok (.aload_n 0, 1) := by decide +kernel
theorem dX1_init_47 : decode cX1_init 47 = .ok (.getfield 9, 3) := by decide +kernel
theorem dX1_init_50 : decode cX1_init 50 = .ok (.iload_n 1, 1) := by decide +kernel
theorem dX1_init_51 : decode cX1_init 51 = .ok (.getstatic 34, 3) := by decide +kernel
theorem dX1_init_54 : decode cX1_init 54 = .ok (.iload_n 1, 1) := by decide +kernel
theorem dX1_init_55 : decode cX1_init 55 = .ok (.iaload, 1) := by decide +kernel
theorem dX1_init_56 : decode cX1_init 56 = .ok (.iastore, 1) := by decide +kernel
theorem dX1_init_57 : decode cX1_init 57 = .ok (.iinc 1 1, 3) := by decide +kernel
theorem dX1_init_60 : decode cX1_init 60 = .ok (.goto (-19), 3) := by decide +kernel
theorem dX1_init_63 : decode cX1_init 63 = .ok (.iconst 0, 1) := by decide +kernel
theorem dX1_init_64 : decode cX1_init 64 = .ok (.istore_n 1, 1) := by decide +kernel
theorem dX1_init_65 : decode cX1_init 65 = .ok (.iload_n 1, 1) := by decide +kernel
theorem dX1_init_66 : decode cX1_init 66 = .ok (.iconst 4, 1) := by decide +kernel
theorem dX1_init_67 : decode cX1_init 67 = .ok (.if_icmp .ge 27, 3) := by decide +kernel
theorem dX1_init_70 : decode cX1_init 70 = .ok (.aload_n 0, 1) := by decide +kernel
theorem dX1_init_71 : decode cX1_init 71 = .ok (.getfield 24, 3) := by decide +kernel
theorem dX1_init_74 : decode cX1_init 74 = .ok (.iload_n 1, 1) := by decide +kernel
theorem dX1_init_75 : decode cX1_init 75 = .ok (.new 22, 3) := by decide +kernel
theorem dX1_init_78 : decode cX1_init 78 = .ok (.dup, 1) := by decide +kernel
theorem dX1_init_79 : decode cX1_init 79 = .ok (.iconst 2, 1) := by decide +kernel
theorem dX1_init_80 : decode cX1_init 80 = .ok (.iload_n 1, 1) := by decide +kernel
theorem dX1_init_81 : decode cX1_init 81 = .ok (.imul, 1) := by decide +kernel
theorem dX1_init_82 : decode cX1_init 82 = .ok (.iconst 2, 1) := by decide +kernel
theorem dX1_init_83 : decode cX1_init 83 = .ok (.iadd, 1) := by decide +kernel
theorem dX1_init_84 : decode cX1_init 84 = .ok (.invokespecial 37, 3) := by decide +kernel
theorem dX1_init_87 : decode cX1_init 87 = .ok (.aastore, 1) := by decide +kernel
theorem dX1_init_88 : decode cX1_init 88 = .ok (.iinc 1 1, 3) := by decide +kernel
theorem dX1_init_91 : decode cX1_init 91 = .ok (.goto (-26), 3) := by decide +kernel
theorem dX1_init_94 : decode cX1_init 94 = .ok (.iconst 0, 1) := by decide +kernel
theorem dX1_init_95 : decode cX1_init 95 = .ok (.istore_n 1, 1) := by decide +kernel
theorem dX1_init_96 : decode cX1_init 96 = .ok (.iload_n 1, 1) := by decide +kernel
theorem dX1_init_97 : decode cX1_init 97 = .ok (.aload_n 0, 1) := by decide +kernel
theorem dX1_init_98 : decode cX1_init 98 = .ok (.getfield 30, 3) := by decide +kernel
theorem dX1_init_101 : decode cX1_init 101 = .ok (.arraylength, 1) := by decide +kernel
theorem dX1_init_102 : decode cX1_init 102 = .ok (.if_icmp .ge 22, 3) := by decide +kernel
theorem dX1_init_105 : decode cX1_init 105 = .ok (.aload_n 0, 1) := by decide +kernel
theorem dX1_init_106 : decode cX1_init 106 = .ok (.getfield 30, 3) := by decide +kernel
theorem dX1_init_109 : decode cX1_init 109 = .ok (.iload_n 1, 1) := by decide +kernel
theorem dX1_init_110 : decode cX1_init 110 = .ok (.new 28, 3) := by decide +kernel
theorem dX1_init_113 : decode cX1_init 113 = .ok (.dup, 1) := by decide +kernel
theorem dX1_init_114 : decode cX1_init 114 = .ok (.invokespecial 40, 3) := by decide +kernel
theorem dX1_init_117 : decode cX1_init 117 = .ok (.aastore, 1) := by decide +kernel
theorem dX1_init_118 : decode cX1_init 118 = .ok (.iinc 1 1, 3) := by decide +kernel
theorem dX1_init_121 : decode cX1_init 121 = .ok (.goto (-25), 3) := by decide +kernel
theorem dX1_init_124 : decode cX1_init 124 = .ok (.return_, 1) := by decide +kernel
theorem dX1_copyFrom_0 : decode cX1_copyFrom 0 = .ok (.aload_n 0, 1) := by decide +kernel
theorem dX1_copyFrom_1 : decode cX1_copyFrom 1 = .ok (.aload_n 1, 1) := by decide +kernel
theorem dX1_copyFrom_2 : decode cX1_copyFrom 2 = .ok (.getfield 41, 3) := by decide +kernel
theorem dX1_copyFrom_5 : decode cX1_copyFrom 5 = .ok (.putfield 41, 3) := by decide +kernel
theorem dX1_copyFrom_8 : decode cX1_copyFrom 8 = .ok (.aload_n 0, 1) := by decide +kernel
theorem dX1_copyFrom_9 : decode cX1_copyFrom 9 = .ok (.aload_n 1, 1) := by decide +kernel
theorem dX1_copyFrom_10 : decode cX1_copyFrom 10 = .ok (.getfield 45, 3) := by decide +kernel
theorem dX1_copyFrom_13 : decode cX1_copyFrom 13 = .ok (.putfield 45, 3) := by decide +kernel
theorem dX1_copyFrom_16 : decode cX1_copyFrom 16 = .ok (.aload_n 0, 1) := by decide +kernel
theorem dX1_copyFrom_17 : decode cX1_copyFrom 17 = .ok (.aload_n 1, 1) := by decide +kernel
theorem dX1_copyFrom_18 : decode cX1_copyFrom 18 = .ok (.getfield 48, 3) := by decide +kernel
theorem dX1_copyFrom_21 : decode cX1_copyFrom 21 = .ok (.putfield 48, 3) := by decide +kernel
theorem dX1_copyFrom_24 : decode cX1_copyFrom 24 = .ok (.aload_n 0, 1) := by decide +kernel
theorem dX1_copyFrom_25 : decode cX1_copyFrom 25 = .ok (.getfield 18, 3) := by decide +kernel
theorem dX1_copyFrom_28 : decode cX1_copyFrom 28 = .ok (.aload_n 1, 1) := by decide +kernel
theorem dX1_copyFrom_29 : decode cX1_copyFrom 29 = .ok (.getfield 18, 3) := by decide +kernel
theorem dX1_copyFrom_32 : decode cX1_copyFrom 32 = .ok (.invokevirtual 51, 3) := by decide +kernel
theorem dX1_copyFrom_35 : decode cX1_copyFrom 35 = .ok (.iconst 0, 1) := by decide +kernel
theorem dX1_copyFrom_36 : decode cX1_copyFrom 36 = .ok (.istore_n 2, 1) := by decide +kernel
theorem dX1_copyFrom_37 : decode cX1_copyFrom 37 = .ok (.iload_n 2, 1) := by decide +kernel
theorem dX1_copyFrom_38 : decode cX1_copyFrom 38 = .ok (.iconst 3, 1) := by decide +kernel
theorem dX1_copyFrom_39 : decode cX1_copyFrom 39 = .ok (.if_icmp .ge 21, 3) := by decide +kernel
theorem dX1_copyFrom_42 : decode cX1_copyFrom 42 = .ok (.aload_n 0, 1) := by decide +kernel
theorem dX1_copyFrom_43 : decode cX1_copyFrom 43 = .ok (.getfield 9, 3) := by decide +kernel
theorem dX1_copyFrom_46 : decode cX1_copyFrom 46 = .ok (.iload_n 2, 1) := by decide +kernel
theorem dX1_copyFrom_47 : decode cX1_copyFrom 47 = .ok (.aload_n 1, 1) := by decide +kernel
theorem dX1_copyFrom_48 : decode cX1_copyFrom 48 = .ok (.getfield 9, 3) := by decide +kernel
theorem dX1_copyFrom_51 : decode cX1_copyFrom 51 = .ok (.iload_n 2, 1) := by decide +kernel
theorem dX1_copyFrom_52 : decode cX1_copyFrom 52 = .ok (.iaload, 1) := by decide +kernel
theorem dX1_copyFrom_53 : decode cX1_copyFrom 53 = .ok (.iastore, 1) := by decide +kernel
theorem dX1_copyFrom_54 : decode cX1_copyFrom 54 = .ok (.iinc 2 1, 3) := by decide +kernel
theorem dX1_copyFrom_57 : decode cX1_copyFrom 57 = .ok (.goto (-20), 3) := by decide +kernel
theorem dX1_copyFrom_60 : decode cX1_copyFrom 60 = .ok (.iconst 0, 1) := by decide +kernel
theorem dX1_copyFrom_61 : decode cX1_copyFrom 61 = .ok (.istore_n 2, 1) := by decide +kernel
theorem dX1_copyFrom_62 : decode cX1_copyFrom 62 = .ok (.iload_n 2, 1) := by decide +kernel
theorem dX1_copyFrom_63 : decode cX1_copyFrom 63 = .ok (.iconst 4, 1) := by decide +kernel
theorem dX1_copyFrom_64 : decode cX1_copyFrom 64 = .ok (.if_icmp .ge 24, 3) := by decide +kernel
theorem dX1_copyFrom_67 : decode cX1_copyFrom 67 = .ok (.aload_n 0, 1) := by decide +kernel
theorem dX1_copyFrom_68 : decode cX1_copyFrom 68 = .ok (.getfield 24, 3) := by decide +kernel
theorem dX1_copyFrom_71 : decode cX1_copyFrom 71 = .ok (.iload_n 2, 1) := by decide +kernel
theorem dX1_copyFrom_72 : decode cX1_copyFrom 72 = .ok (.aaload, 1) := by decide +kernel
theorem dX1_copyFrom_73 : decode cX1_copyFrom 73 = .ok (.aload_n 1, 1) := by decide +kernel
theorem dX1_copyFrom_74 : decode cX1_copyFrom 74 = .ok (.getfield 24, 3) := by decide +kernel
theorem dX1_copyFrom_77 : decode cX1_copyFrom 77 = .ok (.iload_n 2, 1) := by decide +kernel
theorem dX1_copyFrom_78 : decode cX1_copyFrom 78 = .ok (.aaload, 1) := by decide +kernel
theorem dX1_copyFrom_79 : decode cX1_copyFrom 79 = .ok (.invokevirtual 55, 3) := by decide +kernel
theorem dX1_copyFrom_82 : decode cX1_copyFrom 82 = .ok (.iinc 2 1, 3) := by decide +kernel
theorem dX1_copyFrom_85 : decode cX1_copyFrom 85 = .ok (.goto (-23), 3) := by decide +kernel
theorem dX1_copyFrom_88 : decode cX1_copyFrom 88 = .ok (.iconst 0, 1) := by decide +kernel
theorem dX1_copyFrom_89 : decode cX1_copyFrom 89 = .ok (.istore_n 2, 1) := by decide +kernel
theorem dX1_copyFrom_90 : decode cX1_copyFrom 90 = .ok (.iload_n 2, 1) := by decide +kernel
theorem dX1_copyFrom_91 : decode cX1_copyFrom 91 = .ok (.aload_n 0, 1) := by decide +kernel
theorem dX1_copyFrom_92 : decode cX1_copyFrom 92 = .ok (.getfield 48, 3) := by decide +kernel
theorem dX1_copyFrom_95 : decode cX1_copyFrom 95 = .ok (.if_icmp .ge 24, 3) := by decide +kernel
theorem dX1_copyFrom_98 : decode cX1_copyFrom 98 = .ok (.aload_n 0, 1) := by decide +kernel
theorem dX1_copyFrom_99 : decode cX1_copyFrom 99 = .ok (.getfield 30, 3) := by decide +kernel
theorem dX1_copyFrom_102 : decode cX1_copyFrom 102 = .ok (.iload_n 2, 1) := by decide +kernel
theorem dX1_copyFrom_103 : decode cX1_copyFrom 103 = .ok (.aaload, 1) := by decide +kernel
theorem dX1_copyFrom_104 : decode cX1_copyFrom 104 = .ok (.aload_n 1, 1) := by decide +kernel
theorem dX1_copyFrom_105 : decode cX1_copyFrom 105 = .ok (.getfield 30, 3) := by decide +kernel
theorem dX1_copyFrom_108 : decode cX1_copyFrom 108 = .ok (.iload_n 2, 1) := by decide +kernel
theorem dX1_copyFrom_109 : decode cX1_copyFrom 109 = .ok (.aaload, 1) := by decide +kernel
theorem dX1_copyFrom_110 : decode cX1_copyFrom 110 = .ok (.invokevirtual 58, 3) := by decide +kernel
theorem dX1_copyFrom_113 : decode cX1_copyFrom 113 = .ok (.iinc 2 1, 3) := by decide +kernel
theorem dX1_copyFrom_116 : decode cX1_copyFrom 116 = .ok (.goto (-26), 3) := by decide +kernel
theorem dX1_copyFrom_119 : decode cX1_copyFrom 119 = .ok (.return_, 1) := by decide +kernel
theorem dX1_lastPlace_0 : decode cX1_lastPlace 0 = .ok (.aload_n 0, 1) := by decide +kernel
theorem dX1_lastPlace_1 : decode cX1_lastPlace 1 = .ok (.getfield 9, 3) := by decide +kernel
theorem dX1_lastPlace_4 : decode cX1_lastPlace 4 = .ok (.iconst 0, 1) := by decide +kernel
theorem dX1_lastPlace_5 : decode cX1_lastPlace 5 = .ok (.iaload, 1) := by decide +kernel
theorem dX1_lastPlace_6 : decode cX1_lastPlace 6 = .ok (.ireturn, 1) := by decide +kernel
theorem dX1_furthestPlace_0 : decode cX1_furthestPlace 0 = .ok (.aload_n 0, 1) := by decide +kernel
theorem dX1_furthestPlace_1 : decode cX1_furthestPlace 1 = .ok (.getfield 18, 3) := by decide +kernel
theorem dX1_furthestPlace_4 : decode cX1_furthestPlace 4 = .ok (.getfield 61, 3) := by decide +kernel
theorem dX1_furthestPlace_7 : decode cX1_furthestPlace 7 = .ok (.istore_n 1, 1) := by decide +kernel
theorem dX1_furthestPlace_8 : decode cX1_furthestPlace 8 = .ok (.iconst 0, 1) := by decide +kernel
theorem dX1_furthestPlace_9 : decode cX1_furthestPlace 9 = .ok (.istore_n 2, 1) := by decide +kernel
theorem dX1_furthestPlace_10 : decode cX1_furthestPlace 10 = .ok (.iload_n 2, 1) := by decide +kernel
theorem dX1_furthestPlace_11 : decode cX1_furthestPlace 11 = .ok (.iconst 4, 1) := by decide +kernel
theorem dX1_furthestPlace_12 : decode cX1_furthestPlace 12 = .ok (.if_icmp .ge 23, 3) := by decide +kernel
theorem dX1_furthestPlace_15 : decode cX1_furthestPlace 15 = .ok (.iload_n 1, 1) := by decide +kernel
theorem dX1_furthestPlace_16 : decode cX1_furthestPlace 16 = .ok (.aload_n 0, 1) := by decide +kernel
theorem dX1_furthestPlace_17 : decode cX1_furthestPlace 17 = .ok (.getfield 24, 3) := by decide +kernel
theorem dX1_furthestPlace_20 : decode cX1_furthestPlace 20 = .ok (.iload_n 2, 1) := by decide +kernel
theorem dX1_furthestPlace_21 : decode cX1_furthestPlace 21 = .ok (.aaload, 1) := by decide +kernel
theorem dX1_furthestPlace_22 : decode cX1_furthestPlace 22 = .ok (.getfield 64, 3) := by decide +kernel
theorem dX1_furthestPlace_25 : decode cX1_furthestPlace 25 = .ok (.invokestatic 65, 3) := by decide +kernel
theorem dX1_furthestPlace_28 : decode cX1_furthestPlace 28 = .ok (.istore_n 1, 1) := by decide +kernel
theorem dX1_furthestPlace_29 : decode cX1_furthestPlace 29 = .ok (.iinc 2 1, 3) := by decide +kernel
theorem dX1_furthestPlace_32 : decode cX1_furthestPlace 32 = .ok (.goto (-22), 3) := by decide +kernel
theorem dX1_furthestPlace_35 : decode cX1_furthestPlace 35 = .ok (.iconst 0, 1) := by decide +kernel
theorem dX1_furthestPlace_36 : decode cX1_furthestPlace 36 = .ok (.istore_n 2, 1) := by decide +kernel
theorem dX1_furthestPlace_37 : decode cX1_furthestPlace 37 = .ok (.iload_n 2, 1) := by decide +kernel
theorem dX1_furthestPlace_38 : decode cX1_furthestPlace 38 = .ok (.aload_n 0, 1) := by decide +kernel
theorem dX1_furthestPlace_39 : decode cX1_furthestPlace 39 = .ok (.getfield 48, 3) := by decide +kernel
theorem dX1_furthestPlace_42 : decode cX1_furthestPlace 42 = .ok (.if_icmp .ge 23, 3) := by decide +kernel
theorem dX1_furthestPlace_45 : decode cX1_furthestPlace 45 = .ok (.iload_n 1, 1) := by decide +kernel
theorem dX1_furthestPlace_46 : decode cX1_furthestPlace 46 = .ok (.aload_n 0, 1) := by decide +kernel
theorem dX1_furthestPlace_47 : decode cX1_furthestPlace 47 = .ok (.getfield 30, 3) := by decide +kernel
theorem dX1_furthestPlace_50 : decode cX1_furthestPlace 50 = .ok (.iload_n 2, 1) := by decide +kernel
theorem dX1_furthestPlace_51 : decode cX1_furthestPlace 51 = .ok (.aaload, 1) := by decide +kernel
theorem dX1_furthestPlace_52 : decode cX1_furthestPlace 52 = .ok (.getfield 71, 3) := by decide +kernel
theorem dX1_furthestPlace_55 : decode cX1_furthestPlace 55 = .ok (.invokestatic 65, 3) := by decide +kernel
theorem dX1_furthestPlace_58 : decode cX1_furthestPlace 58 = .ok (.istore_n 1, 1) := by decide +kernel
theorem dX1_furthestPlace_59 : decode cX1_furthestPlace 59 = .ok (.iinc 2 1, 3) := by decide +kernel
theorem dX1_furthestPlace_62 : decode cX1_furthestPlace 62 = .ok (.goto (-25), 3) := by decide +kernel
theorem dX1_furthestPlace_65 : decode cX1_furthestPlace 65 = .ok (.iload_n 1, 1) := by decide +kernel
theorem dX1_furthestPlace_66 : decode cX1_furthestPlace 66 = .ok (.ireturn, 1) := by decide +kernel
theorem dX1_hasTimeFor_0 : decode cX1_hasTimeFor 0 = .ok (.aload_n 0, 1) := by decide +kernel
theorem dX1_hasTimeFor_1 : decode cX1_hasTimeFor 1 = .ok (.getfield 41, 3) := by decide +kernel
theorem dX1_hasTimeFor_4 : decode cX1_hasTimeFor 4 = .ok (.iload_n 1, 1) := by decide +kernel
theorem dX1_hasTimeFor_5 : decode cX1_hasTimeFor 5 = .ok (.iadd, 1) := by decide +kernel
theorem dX1_hasTimeFor_6 : decode cX1_hasTimeFor 6 = .ok (.ldc 72, 2) := by decide +kernel
theorem dX1_hasTimeFor_8 : decode cX1_hasTimeFor 8 = .ok (.if_icmp .gt 7, 3) := by decide +kernel
theorem dX1_hasTimeFor_11 : decode cX1_hasTimeFor 11 = .ok (.iconst 1, 1) := by decide +kernel
theorem dX1_hasTimeFor_12 : decode cX1_hasTimeFor 12 = .ok (.goto 4, 3) := by decide +kernel
theorem dX1_hasTimeFor_15 : decode cX1_hasTimeFor 15 = .ok (.iconst 0, 1) := by decide +kernel
theorem dX1_hasTimeFor_16 : decode cX1_hasTimeFor 16 = .ok (.ireturn, 1) := by decide +kernel
theorem dX1_echoTime_0 : decode cX1_echoTime 0 = .ok (.iload_n 2, 1) := by decide +kernel
theorem dX1_echoTime_1 : decode cX1_echoTime 1 = .ok (.ifCond .ne 7, 3) := by decide +kernel
theorem dX1_echoTime_4 : decode cX1_echoTime 4 = .ok (.iload_n 1, 1) := by decide +kernel
theorem dX1_echoTime_5 : decode cX1_echoTime 5 = .ok (.goto 9, 3) := by decide +kernel
theorem dX1_echoTime_8 : decode cX1_echoTime 8 = .ok (.aload_n 0, 1) := by decide +kernel
theorem dX1_echoTime_9 : decode cX1_echoTime 9 = .ok (.invokevirtual 73, 3) := by decide +kernel
theorem dX1_echoTime_12 : decode cX1_echoTime 12 = .ok (.iload_n 1, 1) := by decide +kernel
theorem dX1_echoTime_13 : decode cX1_echoTime 13 = .ok (.isub, 1) := by decide +kernel
theorem dX1_echoTime_14 : decode cX1_echoTime 14 = .ok (.istore_n 3, 1) := by decide +kernel
theorem dX1_echoTime_15 : decode cX1_echoTime 15 = .ok (.aload_n 0, 1) := by decide +kernel
theorem dX1_echoTime_16 : decode cX1_echoTime 16 = .ok (.getfield 9, 3) := by decide +kernel
theorem dX1_echoTime_19 : decode cX1_echoTime 19 = .ok (.iconst 1, 1) := by decide +kernel
theorem dX1_echoTime_20 : decode cX1_echoTime 20 = .ok (.iaload, 1) := by decide +kernel
theorem dX1_echoTime_21 : decode cX1_echoTime 21 = .ok (.iconst 1, 1) := by decide +kernel
theorem dX1_echoTime_22 : decode cX1_echoTime 22 = .ok (.invokestatic 65, 3) := by decide +kernel
theorem dX1_echoTime_25 : decode cX1_echoTime 25 = .ok (.istore 4, 2) := by decide +kernel
theorem dX1_echoTime_27 : decode cX1_echoTime 27 = .ok (.iconst 2, 1) := by decide +kernel
theorem dX1_echoTime_28 : decode cX1_echoTime 28 = .ok (.iload_n 3, 1) := by decide +kernel
theorem dX1_echoTime_29 : decode cX1_echoTime 29 = .ok (.imul, 1) := by decide +kernel
theorem dX1_echoTime_30 : decode cX1_echoTime 30 = .ok (.iload 4, 2) := by decide +kernel
theorem dX1_echoTime_32 : decode cX1_echoTime 32 = .ok (.iadd, 1) := by decide +kernel
theorem dX1_echoTime_33 : decode cX1_echoTime 33 = .ok (.iconst 1, 1) := by decide +kernel
theorem dX1_echoTime_34 : decode cX1_echoTime 34 = .ok (.isub, 1) := by decide +kernel
theorem dX1_echoTime_35 : decode cX1_echoTime 35 = .ok (.iload 4, 2) := by decide +kernel
theorem dX1_echoTime_37 : decode cX1_echoTime 37 = .ok (.idiv, 1) := by decide +kernel
theorem dX1_echoTime_38 : decode cX1_echoTime 38 = .ok (.istore 5, 2) := by decide +kernel
theorem dX1_echoTime_40 : decode cX1_echoTime 40 = .ok (.iload 5, 2) := by decide +kernel
theorem dX1_echoTime_42 : decode cX1_echoTime 42 = .ok (.aload_n 0, 1) := by decide +kernel
theorem dX1_echoTime_43 : decode cX1_echoTime 43 = .ok (.getfield 9, 3) := by decide +kernel
theorem dX1_echoTime_46 : decode cX1_echoTime 46 = .ok (.iconst 2, 1) := by decide +kernel
theorem dX1_echoTime_47 : decode cX1_echoTime 47 = .ok (.iaload, 1) := by decide +kernel
theorem dX1_echoTime_48 : decode cX1_echoTime 48 = .ok (.iadd, 1) := by decide +kernel
theorem dX1_echoTime_49 : decode cX1_echoTime 49 = .ok (.iconst 1, 1) := by decide +kernel
theorem dX1_echoTime_50 : decode cX1_echoTime 50 = .ok (.invokestatic 65, 3) := by decide +kernel
theorem dX1_echoTime_53 : decode cX1_echoTime 53 = .ok (.ireturn, 1) := by decide +kernel
theorem dX1_echoesOf_0 : decode cX1_echoesOf 0 = .ok (.iconst 0, 1) := by decide +kernel
theorem dX1_echoesOf_1 : decode cX1_echoesOf 1 = .ok (.istore_n 2, 1) := by decide +kernel
theorem dX1_echoesOf_2 : decode cX1_echoesOf 2 = .ok (.iconst 0, 1) := by decide +kernel
theorem dX1_echoesOf_3 : decode cX1_echoesOf 3 = .ok (.istore_n 3, 1) := by decide +kernel
theorem dX1_echoesOf_4 : decode cX1_echoesOf 4 = .ok (.iload_n 3, 1) := by decide +kernel
theorem dX1_echoesOf_5 : decode cX1_echoesOf 5 = .ok (.aload_n 0, 1) := by decide +kernel
theorem dX1_echoesOf_6 : decode cX1_echoesOf 6 = .ok (.getfield 48, 3) := by decide +kernel
theorem dX1_echoesOf_9 : decode cX1_echoesOf 9 = .ok (.if_icmp .ge 25, 3) := by decide +kernel
theorem dX1_echoesOf_12 : decode cX1_echoesOf 12 = .ok (.aload_n 0, 1) := by decide +kernel
theorem dX1_echoesOf_13 : decode cX1_echoesOf 13 = .ok (.getfield 30, 3) := by decide +kernel
theorem dX1_echoesOf_16 : decode cX1_echoesOf 16 = .ok (.iload_n 3, 1) := by decide +kernel
theorem dX1_echoesOf_17 : decode cX1_echoesOf 17 = .ok (.aaload, 1) := by decide +kernel
theorem dX1_echoesOf_18 : decode cX1_echoesOf 18 = .ok (.getfield 77, 3) := by decide +kernel
theorem dX1_echoesOf_21 : decode cX1_echoesOf 21 = .ok (.iload_n 1, 1) := by decide +kernel
theorem dX1_echoesOf_22 : decode cX1_echoesOf 22 = .ok (.if_icmp .ne 6, 3) := by decide +kernel
theorem dX1_echoesOf_25 : decode cX1_echoesOf 25 = .ok (.iinc 2 1, 3) := by decide +kernel
theorem dX1_echoesOf_28 : decode cX1_echoesOf 28 = .ok (.iinc 3 1, 3) := by decide +kernel
theorem dX1_echoesOf_31 : decode cX1_echoesOf 31 = .ok (.goto (-27), 3) := by decide +kernel
theorem dX1_echoesOf_34 : decode cX1_echoesOf 34 = .ok (.iload_n 2, 1) := by decide +kernel
theorem dX1_echoesOf_35 : decode cX1_echoesOf 35 = .ok (.ireturn, 1) := by decide +kernel
theorem dX1_sendEchoes_0 : decode cX1_sendEchoes 0 = .ok (.aload_n 0, 1) := by decide +kernel
theorem dX1_sendEchoes_1 : decode cX1_sendEchoes 1 = .ok (.iload_n 1, 1) := by decide +kernel
theorem dX1_sendEchoes_2 : decode cX1_sendEchoes 2 = .ok (.invokevirtual 80, 3) := by decide +kernel
theorem dX1_sendEchoes_5 : decode cX1_sendEchoes 5 = .ok (.iconst 2, 1) := by decide +kernel
theorem dX1_sendEchoes_6 : decode cX1_sendEchoes 6 = .ok (.iadd, 1) := by decide +kernel
theorem dX1_sendEchoes_7 : decode cX1_sendEchoes 7 = .ok (.bipush 6, 2) := by decide +kernel
theorem dX1_sendEchoes_9 : decode cX1_sendEchoes 9 = .ok (.if_icmp .le 15, 3) := by decide +kernel
theorem dX1_sendEchoes_12 : decode cX1_sendEchoes 12 = .ok (.aload_n 0, 1) := by decide +kernel
theorem dX1_sendEchoes_13 : decode cX1_sendEchoes 13 = .ok (.dup, 1) := by decide +kernel
theorem dX1_sendEchoes_14 : decode cX1_sendEchoes 14 = .ok (.getfield 45, 3) := by decide +kernel
theorem dX1_sendEchoes_17 : decode cX1_sendEchoes 17 = .ok (.iconst 1, 1) := by decide +kernel
theorem dX1_sendEchoes_18 : decode cX1_sendEchoes 18 = .ok (.iadd, 1) := by decide +kernel
theorem dX1_sendEchoes_19 : decode cX1_sendEchoes 19 = .ok (.putfield 45, 3) := by decide +kernel
theorem dX1_sendEchoes_22 : decode cX1_sendEchoes 22 = .ok (.iconst (-1), 1) := by decide +kernel
theorem dX1_sendEchoes_23 : decode cX1_sendEchoes 23 = .ok (.ireturn, 1) := by decide +kernel
theorem dX1_sendEchoes_24 : decode cX1_sendEchoes 24 = .ok (.aload_n 0, 1) := by decide +kernel
theorem dX1_sendEchoes_25 : decode cX1_sendEchoes 25 = .ok (.getfield 24, 3) := by decide +kernel
theorem dX1_sendEchoes_28 : decode cX1_sendEchoes 28 = .ok (.iload_n 1, 1) := by decide +kernel
theorem dX1_sendEchoes_29 : decode cX1_sendEchoes 29 = .ok (.aaload, 1) := by decide +kernel
theorem dX1_sendEchoes_30 : decode cX1_sendEchoes 30 = .ok (.dup, 1) := by decide +kernel
theorem dX1_sendEchoes_31 : decode cX1_sendEchoes 31 = .ok (.getfield 84, 3) := by decide +kernel
theorem dX1_sendEchoes_34 : decode cX1_sendEchoes 34 = .ok (.iconst 1, 1) := by decide +kernel
theorem dX1_sendEchoes_35 : decode cX1_sendEchoes 35 = .ok (.iadd, 1) := by decide +kernel
theorem dX1_sendEchoes_36 : decode cX1_sendEchoes 36 = .ok (.putfield 84, 3) := by decide +kernel
theorem dX1_sendEchoes_39 : decode cX1_sendEchoes 39 = .ok (.iconst 0, 1) := by decide +kernel
theorem dX1_sendEchoes_40 : decode cX1_sendEchoes 40 = .ok (.istore_n 3, 1) := by decide +kernel
theorem dX1_sendEchoes_41 : decode cX1_sendEchoes 41 = .ok (.iload_n 3, 1) := by decide +kernel
theorem dX1_sendEchoes_42 : decode cX1_sendEchoes 42 = .ok (.iconst 2, 1) := by decide +kernel
theorem dX1_sendEchoes_43 : decode cX1_sendEchoes 43 = .ok (.if_icmp .ge 16, 3) := by decide +kernel
theorem dX1_sendEchoes_46 : decode cX1_sendEchoes 46 = .ok (.aload_n 0, 1) := by decide +kernel
theorem dX1_sendEchoes_47 : decode cX1_sendEchoes 47 = .ok (.iload_n 1, 1) := by decide +kernel
theorem dX1_sendEchoes_48 : decode cX1_sendEchoes 48 = .ok (.iload_n 2, 1) := by decide +kernel
theorem dX1_sendEchoes_49 : decode cX1_sendEchoes 49 = .ok (.iload_n 3, 1) := by decide +kernel
theorem dX1_sendEchoes_50 : decode cX1_sendEchoes 50 = .ok (.invokevirtual 87, 3) := by decide +kernel
theorem dX1_sendEchoes_53 : decode cX1_sendEchoes 53 = .ok (.iinc 3 1, 3) := by decide +kernel
theorem dX1_sendEchoes_56 : decode cX1_sendEchoes 56 = .ok (.goto (-15), 3) := by decide +kernel
theorem dX1_sendEchoes_59 : decode cX1_sendEchoes 59 = .ok (.aload_n 0, 1) := by decide +kernel
theorem dX1_sendEchoes_60 : decode cX1_sendEchoes 60 = .ok (.getfield 24, 3) := by decide +kernel
theorem dX1_sendEchoes_63 : decode cX1_sendEchoes 63 = .ok (.iload_n 1, 1) := by decide +kernel
theorem dX1_sendEchoes_64 : decode cX1_sendEchoes 64 = .ok (.aaload, 1) := by decide +kernel
theorem dX1_sendEchoes_65 : decode cX1_sendEchoes 65 = .ok (.getfield 64, 3) := by decide +kernel
theorem dX1_sendEchoes_68 : decode cX1_sendEchoes 68 = .ok (.istore_n 3, 1) := by decide +kernel
theorem dX1_sendEchoes_69 : decode cX1_sendEchoes 69 = .ok (.aload_n 0, 1) := by decide +kernel
theorem dX1_sendEchoes_70 : decode cX1_sendEchoes 70 = .ok (.iload_n 3, 1) := by decide +kernel
theorem dX1_sendEchoes_71 : decode cX1_sendEchoes 71 = .ok (.iconst 0, 1) := by decide +kernel
theorem dX1_sendEchoes_72 : decode cX1_sendEchoes 72 = .ok (.invokevirtual 91, 3) := by decide +kernel
theorem dX1_sendEchoes_75 : decode cX1_sendEchoes 75 = .ok (.aload_n 0, 1) := by decide +kernel
theorem dX1_sendEchoes_76 : decode cX1_sendEchoes 76 = .ok (.iload_n 3, 1) := by decide +kernel
theorem dX1_sendEchoes_77 : decode cX1_sendEchoes 77 = .ok (.iconst 1, 1) := by decide +kernel
theorem dX1_sendEchoes_78 : decode cX1_sendEchoes 78 = .ok (.invokevirtual 91, 3) := by decide +kernel
theorem dX1_sendEchoes_81 : decode cX1_sendEchoes 81 = .ok (.invokestatic 94, 3) := by decide +kernel
theorem dX1_sendEchoes_84 : decode cX1_sendEchoes 84 = .ok (.ireturn, 1) := by decide +kernel
theorem dX1_addEcho_0 : decode cX1_addEcho 0 = .ok (.aload_n 0, 1) := by decide +kernel
theorem dX1_addEcho_1 : decode cX1_addEcho 1 = .ok (.getfield 48, 3) := by decide +kernel
theorem dX1_addEcho_4 : decode cX1_addEcho 4 = .ok (.aload_n 0, 1) := by decide +kernel
theorem dX1_addEcho_5 : decode cX1_addEcho 5 = .ok (.getfield 30, 3) := by decide +kernel
theorem dX1_addEcho_8 : decode cX1_addEcho 8 = .ok (.arraylength, 1) := by decide +kernel
theorem dX1_addEcho_9 : decode cX1_addEcho 9 = .ok (.if_icmp .lt 4, 3) := by decide +kernel
theorem dX1_addEcho_12 : decode cX1_addEcho 12 = .ok (.return_, 1) := by decide +kernel
theorem dX1_addEcho_13 : decode cX1_addEcho 13 = .ok (.aload_n 0, 1) := by decide +kernel
theorem dX1_addEcho_14 : decode cX1_addEcho 14 = .ok (.getfield 30, 3) := by decide +kernel
theorem dX1_addEcho_17 : decode cX1_addEcho 17 = .ok (.aload_n 0, 1) := by decide +kernel
theorem dX1_addEcho_18 : decode cX1_addEcho 18 = .ok (.getfield 48, 3) := by decide +kernel
theorem dX1_addEcho_21 : decode cX1_addEcho 21 = .ok (.aaload, 1) := by decide +kernel
theorem dX1_addEcho_22 : decode cX1_addEcho 22 = .ok (.astore 4, 2) := by decide +kernel
theorem dX1_addEcho_24 : decode cX1_addEcho 24 = .ok (.aload 4, 2) := by decide +kernel
theorem dX1_addEcho_26 : decode cX1_addEcho 26 = .ok (.iload_n 1, 1) := by decide +kernel
theorem dX1_addEcho_27 : decode cX1_addEcho 27 = .ok (.putfield 77, 3) := by decide +kernel
theorem dX1_addEcho_30 : decode cX1_addEcho 30 = .ok (.aload 4, 2) := by decide +kernel
theorem dX1_addEcho_32 : decode cX1_addEcho 32 = .ok (.aload_n 0, 1) := by decide +kernel
theorem dX1_addEcho_33 : decode cX1_addEcho 33 = .ok (.getfield 24, 3) := by decide +kernel
theorem dX1_addEcho_36 : decode cX1_addEcho 36 = .ok (.iload_n 1, 1) := by decide +kernel
theorem dX1_addEcho_37 : decode cX1_addEcho 37 = .ok (.aaload, 1) := by decide +kernel
theorem dX1_addEcho_38 : decode cX1_addEcho 38 = .ok (.getfield 64, 3) := by decide +kernel
theorem dX1_addEcho_41 : decode cX1_addEcho 41 = .ok (.putfield 71, 3) := by decide +kernel
theorem dX1_addEcho_44 : decode cX1_addEcho 44 = .ok (.aload 4, 2) := by decide +kernel
theorem dX1_addEcho_46 : decode cX1_addEcho 46 = .ok (.iload_n 2, 1) := by decide +kernel
theorem dX1_addEcho_47 : decode cX1_addEcho 47 = .ok (.putfield 97, 3) := by decide +kernel
theorem dX1_addEcho_50 : decode cX1_addEcho 50 = .ok (.aload 4, 2) := by decide +kernel
theorem dX1_addEcho_52 : decode cX1_addEcho 52 = .ok (.iload_n 3, 1) := by decide +kernel
theorem dX1_addEcho_53 : decode cX1_addEcho 53 = .ok (.putfield 100, 3) := by decide +kernel
theorem dX1_addEcho_56 : decode cX1_addEcho 56 = .ok (.aload 4, 2) := by decide +kernel
theorem dX1_addEcho_58 : decode cX1_addEcho 58 = .ok (.aload_n 0, 1) := by decide +kernel
theorem dX1_addEcho_59 : decode cX1_addEcho 59 = .ok (.getfield 41, 3) := by decide +kernel
theorem dX1_addEcho_62 : decode cX1_addEcho 62 = .ok (.aload_n 0, 1) := by decide +kernel
theorem dX1_addEcho_63 : decode cX1_addEcho 63 = .ok (.aload 4, 2) := by decide +kernel
theorem dX1_addEcho_65 : decode cX1_addEcho 65 = .ok (.getfield 71, 3) := by decide +kernel
theorem dX1_addEcho_68 : decode cX1_addEcho 68 = .ok (.iload_n 3, 1) := by decide +kernel
theorem dX1_addEcho_69 : decode cX1_addEcho 69 = .ok (.invokevirtual 91, 3) := by decide +kernel
theorem dX1_addEcho_72 : decode cX1_addEcho 72 = .ok (.iadd, 1) := by decide +kernel
theorem dX1_addEcho_73 : decode cX1_addEcho 73 = .ok (.putfield 103, 3) := by decide +kernel
theorem dX1_addEcho_76 : decode cX1_addEcho 76 = .ok (.aload_n 0, 1) := by decide +kernel
theorem dX1_addEcho_77 : decode cX1_addEcho 77 = .ok (.getfield 48, 3) := by decide +kernel
theorem dX1_addEcho_80 : decode cX1_addEcho 80 = .ok (.istore 5, 2) := by decide +kernel
theorem dX1_addEcho_82 : decode cX1_addEcho 82 = .ok (.iload 5, 2) := by decide +kernel
theorem dX1_addEcho_84 : decode cX1_addEcho 84 = .ok (.ifCond .le 45, 3) := by decide +kernel
theorem dX1_addEcho_87 : decode cX1_addEcho 87 = .ok (.aload_n 0, 1) := by decide +kernel
theorem dX1_addEcho_88 : decode cX1_addEcho 88 = .ok (.getfield 30, 3) := by decide +kernel
theorem dX1_addEcho_91 : decode cX1_addEcho 91 = .ok (.iload 5, 2) := by decide +kernel
theorem dX1_addEcho_93 : decode cX1_addEcho 93 = .ok (.iconst 1, 1) := by decide +kernel
theorem dX1_addEcho_94 : decode cX1_addEcho 94 = .ok (.isub, 1) := by decide +kernel
theorem dX1_addEcho_95 : decode cX1_addEcho 95 = .ok (.aaload, 1) := by decide +kernel
theorem dX1_addEcho_96 : decode cX1_addEcho 96 = .ok (.getfield 103, 3) := by decide +kernel
theorem dX1_addEcho_99 : decode cX1_addEcho 99 = .ok (.aload 4, 2) := by decide +kernel
theorem dX1_addEcho_101 : decode cX1_addEcho 101 = .ok (.getfield 103, 3) := by decide +kernel
theorem dX1_addEcho_104 : decode cX1_addEcho 104 = .ok (.if_icmp .le 25, 3) := by decide +kernel
theorem dX1_addEcho_107 : decode cX1_addEcho 107 = .ok (.aload_n 0, 1) := by decide +kernel
theorem dX1_addEcho_108 : decode cX1_addEcho 108 = .ok (.getfield 30, 3) := by decide +kernel
theorem dX1_addEcho_111 : decode cX1_addEcho 111 = .ok (.iload 5, 2) := by decide +kernel
theorem dX1_addEcho_113 : decode cX1_addEcho 113 = .ok (.aload_n 0, 1) := by decide +kernel
theorem dX1_addEcho_114 : decode cX1_addEcho 114 = .ok (.getfield 30, 3) := by decide +kernel
theorem dX1_addEcho_117 : decode cX1_addEcho 117 = .ok (.iload 5, 2) := by decide +kernel
theorem dX1_addEcho_119 : decode cX1_addEcho 119 = .ok (.iconst 1, 1) := by decide +kernel
theorem dX1_addEcho_120 : decode cX1_addEcho 120 = .ok (.isub, 1) := by decide +kernel
theorem dX1_addEcho_121 : decode cX1_addEcho 121 = .ok (.aaload, 1) := by decide +kernel
theorem dX1_addEcho_122 : decode cX1_addEcho 122 = .ok (.aastore, 1) := by decide +kernel
theorem dX1_addEcho_123 : decode cX1_addEcho 123 = .ok (.iinc 5 (-1), 3) := by decide +kernel
theorem dX1_addEcho_126 : decode cX1_addEcho 126 = .ok (.goto (-44), 3) := by decide +kernel
theorem dX1_addEcho_129 : decode cX1_addEcho 129 = .ok (.aload_n 0, 1) := by decide +kernel
theorem dX1_addEcho_130 : decode cX1_addEcho 130 = .ok (.getfield 30, 3) := by decide +kernel
theorem dX1_addEcho_133 : decode cX1_addEcho 133 = .ok (.iload 5, 2) := by decide +kernel
theorem dX1_addEcho_135 : decode cX1_addEcho 135 = .ok (.aload 4, 2) := by decide +kernel
theorem dX1_addEcho_137 : decode cX1_addEcho 137 = .ok (.aastore, 1) := by decide +kernel
theorem dX1_addEcho_138 : decode cX1_addEcho 138 = .ok (.aload_n 0, 1) := by decide +kernel
theorem dX1_addEcho_139 : decode cX1_addEcho 139 = .ok (.dup, 1) := by decide +kernel
theorem dX1_addEcho_140 : decode cX1_addEcho 140 = .ok (.getfield 48, 3) := by decide +kernel
theorem dX1_addEcho_143 : decode cX1_addEcho 143 = .ok (.iconst 1, 1) := by decide +kernel
theorem dX1_addEcho_144 : decode cX1_addEcho 144 = .ok (.iadd, 1) := by decide +kernel
theorem dX1_addEcho_145 : decode cX1_addEcho 145 = .ok (.putfield 48, 3) := by decide +kernel
theorem dX1_addEcho_148 : decode cX1_addEcho 148 = .ok (.return_, 1) := by decide +kernel
theorem dX1_movePlayer_0 : decode cX1_movePlayer 0 = .ok (.aload_n 0, 1) := by decide +kernel
theorem dX1_movePlayer_1 : decode cX1_movePlayer 1 = .ok (.getfield 24, 3) := by decide +kernel
theorem dX1_movePlayer_4 : decode cX1_movePlayer 4 = .ok (.iload_n 1, 1) := by decide +kernel
theorem dX1_movePlayer_5 : decode cX1_movePlayer 5 = .ok (.aaload, 1) := by decide +kernel
theorem dX1_movePlayer_6 : decode cX1_movePlayer 6 = .ok (.getfield 64, 3) := by decide +kernel
theorem dX1_movePlayer_9 : decode cX1_movePlayer 9 = .ok (.iload_n 2, 1) := by decide +kernel
theorem dX1_movePlayer_10 : decode cX1_movePlayer 10 = .ok (.iadd, 1) := by decide +kernel
theorem dX1_movePlayer_11 : decode cX1_movePlayer 11 = .ok (.istore_n 3, 1) := by decide +kernel
theorem dX1_movePlayer_12 : decode cX1_movePlayer 12 = .ok (.iload_n 3, 1) := by decide +kernel
theorem dX1_movePlayer_13 : decode cX1_movePlayer 13 = .ok (.ifCond .lt 11, 3) := by decide +kernel
theorem dX1_movePlayer_16 : decode cX1_movePlayer 16 = .ok (.iload_n 3, 1) := by decide +kernel
theorem dX1_movePlayer_17 : decode cX1_movePlayer 17 = .ok (.aload_n 0, 1) := by decide +kernel
theorem dX1_movePlayer_18 : decode cX1_movePlayer 18 = .ok (.invokevirtual 73, 3) := by decide +kernel
theorem dX1_movePlayer_21 : decode cX1_movePlayer 21 = .ok (.if_icmp .le 15, 3) := by decide +kernel
theorem dX1_movePlayer_24 : decode cX1_movePlayer 24 = .ok (.aload_n 0, 1) := by decide +kernel
theorem dX1_movePlayer_25 : decode cX1_movePlayer 25 = .ok (.dup, 1) := by decide +kernel
theorem dX1_movePlayer_26 : decode cX1_movePlayer 26 = .ok (.getfield 45, 3) := by decide +kernel
theorem dX1_movePlayer_29 : decode cX1_movePlayer 29 = .ok (.iconst 1, 1) := by decide +kernel
theorem dX1_movePlayer_30 : decode cX1_movePlayer 30 = .ok (.iadd, 1) := by decide +kernel
theorem dX1_movePlayer_31 : decode cX1_movePlayer 31 = .ok (.putfield 45, 3) := by decide +kernel
theorem dX1_movePlayer_34 : decode cX1_movePlayer 34 = .ok (.iconst (-1), 1) := by decide +kernel
theorem dX1_movePlayer_35 : decode cX1_movePlayer 35 = .ok (.ireturn, 1) := by decide +kernel
theorem dX1_movePlayer_36 : decode cX1_movePlayer 36 = .ok (.aload_n 0, 1) := by decide +kernel
theorem dX1_movePlayer_37 : decode cX1_movePlayer 37 = .ok (.getfield 24, 3) := by decide +kernel
theorem dX1_movePlayer_40 : decode cX1_movePlayer 40 = .ok (.iload_n 1, 1) := by decide +kernel
theorem dX1_movePlayer_41 : decode cX1_movePlayer 41 = .ok (.aaload, 1) := by decide +kernel
theorem dX1_movePlayer_42 : decode cX1_movePlayer 42 = .ok (.iload_n 3, 1) := by decide +kernel
theorem dX1_movePlayer_43 : decode cX1_movePlayer 43 = .ok (.putfield 64, 3) := by decide +kernel
theorem dX1_movePlayer_46 : decode cX1_movePlayer 46 = .ok (.iload_n 3, 1) := by decide +kernel
theorem dX1_movePlayer_47 : decode cX1_movePlayer 47 = .ok (.ireturn, 1) := by decide +kernel
theorem dX1_goTurns_0 : decode cX1_goTurns 0 = .ok (.iconst 0, 1) := by decide +kernel
theorem dX1_goTurns_1 : decode cX1_goTurns 1 = .ok (.istore_n 2, 1) := by decide +kernel
theorem dX1_goTurns_2 : decode cX1_goTurns 2 = .ok (.iconst 0, 1) := by decide +kernel
theorem dX1_goTurns_3 : decode cX1_goTurns 3 = .ok (.istore_n 3, 1) := by decide +kernel
theorem dX1_goTurns_4 : decode cX1_goTurns 4 = .ok (.iload_n 3, 1) := by decide +kernel
theorem dX1_goTurns_5 : decode cX1_goTurns 5 = .ok (.iload_n 1, 1) := by decide +kernel
theorem dX1_goTurns_6 : decode cX1_goTurns 6 = .ok (.if_icmp .ge 16, 3) := by decide +kernel
theorem dX1_goTurns_9 : decode cX1_goTurns 9 = .ok (.iload_n 2, 1) := by decide +kernel
theorem dX1_goTurns_10 : decode cX1_goTurns 10 = .ok (.aload_n 0, 1) := by decide +kernel
theorem dX1_goTurns_11 : decode cX1_goTurns 11 = .ok (.invokevirtual 106, 3) := by decide +kernel
theorem dX1_goTurns_14 : decode cX1_goTurns 14 = .ok (.iadd, 1) := by decide +kernel
theorem dX1_goTurns_15 : decode cX1_goTurns 15 = .ok (.istore_n 2, 1) := by decide +kernel
theorem dX1_goTurns_16 : decode cX1_goTurns 16 = .ok (.iinc 3 1, 3) := by decide +kernel
theorem dX1_goTurns_19 : decode cX1_goTurns 19 = .ok (.goto (-15), 3) := by decide +kernel
theorem dX1_goTurns_22 : decode cX1_goTurns 22 = .ok (.iload_n 2, 1) := by decide +kernel
theorem dX1_goTurns_23 : decode cX1_goTurns 23 = .ok (.ireturn, 1) := by decide +kernel
theorem dX1_goTurn_0 : decode cX1_goTurn 0 = .ok (.aload_n 0, 1) := by decide +kernel
theorem dX1_goTurn_1 : decode cX1_goTurn 1 = .ok (.dup, 1) := by decide +kernel
theorem dX1_goTurn_2 : decode cX1_goTurn 2 = .ok (.getfield 41, 3) := by decide +kernel
theorem dX1_goTurn_5 : decode cX1_goTurn 5 = .ok (.iconst 1, 1) := by decide +kernel
theorem dX1_goTurn_6 : decode cX1_goTurn 6 = .ok (.iadd, 1) := by decide +kernel
theorem dX1_goTurn_7 : decode cX1_goTurn 7 = .ok (.putfield 41, 3) := by decide +kernel
theorem dX1_goTurn_10 : decode cX1_goTurn 10 = .ok (.aload_n 0, 1) := by decide +kernel
theorem dX1_goTurn_11 : decode cX1_goTurn 11 = .ok (.getfield 18, 3) := by decide +kernel
theorem dX1_goTurn_14 : decode cX1_goTurn 14 = .ok (.aload_n 0, 1) := by decide +kernel
theorem dX1_goTurn_15 : decode cX1_goTurn 15 = .ok (.invokevirtual 73, 3) := by decide +kernel
theorem dX1_goTurn_18 : decode cX1_goTurn 18 = .ok (.invokevirtual 109, 3) := by decide +kernel
theorem dX1_goTurn_21 : decode cX1_goTurn 21 = .ok (.iconst 0, 1) := by decide +kernel
theorem dX1_goTurn_22 : decode cX1_goTurn 22 = .ok (.istore_n 1, 1) := by decide +kernel
theorem dX1_goTurn_23 : decode cX1_goTurn 23 = .ok (.iconst 0, 1) := by decide +kernel
theorem dX1_goTurn_24 : decode cX1_goTurn 24 = .ok (.istore_n 2, 1) := by decide +kernel
theorem dX1_goTurn_25 : decode cX1_goTurn 25 = .ok (.iload_n 2, 1) := by decide +kernel
theorem dX1_goTurn_26 : decode cX1_goTurn 26 = .ok (.aload_n 0, 1) := by decide +kernel
theorem dX1_goTurn_27 : decode cX1_goTurn 27 = .ok (.getfield 48, 3) := by decide +kernel
theorem dX1_goTurn_30 : decode cX1_goTurn 30 = .ok (.if_icmp .ge 36, 3) := by decide +kernel
theorem dX1_goTurn_33 : decode cX1_goTurn 33 = .ok (.aload_n 0, 1) := by decide +kernel
theorem dX1_goTurn_34 : decode cX1_goTurn 34 = .ok (.getfield 30, 3) := by decide +kernel
theorem dX1_goTurn_37 : decode cX1_goTurn 37 = .ok (.iload_n 2, 1) := by decide +kernel
theorem dX1_goTurn_38 : decode cX1_goTurn 38 = .ok (.aaload, 1) := by decide +kernel
theorem dX1_goTurn_39 : decode cX1_goTurn 39 = .ok (.getfield 103, 3) := by decide +kernel
theorem dX1_goTurn_42 : decode cX1_goTurn 42 = .ok (.aload_n 0, 1) := by decide +kernel
theorem dX1_goTurn_43 : decode cX1_goTurn 43 = .ok (.getfield 41, 3) := by decide +kernel
theorem dX1_goTurn_46 : decode cX1_goTurn 46 = .ok (.if_icmp .gt 20, 3) := by decide +kernel
theorem dX1_goTurn_49 : decode cX1_goTurn 49 = .ok (.aload_n 0, 1) := by decide +kernel
theorem dX1_goTurn_50 : decode cX1_goTurn 50 = .ok (.iload_n 2, 1) := by decide +kernel
theorem dX1_goTurn_51 : decode cX1_goTurn 51 = .ok (.invokevirtual 111, 3) := by decide +kernel
theorem dX1_goTurn_54 : decode cX1_goTurn 54 = .ok (.ifCond .eq 6, 3) := by decide +kernel
theorem dX1_goTurn_57 : decode cX1_goTurn 57 = .ok (.iinc 1 1, 3) := by decide +kernel
theorem dX1_goTurn_60 : decode cX1_goTurn 60 = .ok (.iinc 2 1, 3) := by decide +kernel
theorem dX1_goTurn_63 : decode cX1_goTurn 63 = .ok (.goto (-38), 3) := by decide +kernel
theorem dX1_goTurn_66 : decode cX1_goTurn 66 = .ok (.aload_n 0, 1) := by decide +kernel
theorem dX1_goTurn_67 : decode cX1_goTurn 67 = .ok (.iload_n 2, 1) := by decide +kernel
theorem dX1_goTurn_68 : decode cX1_goTurn 68 = .ok (.invokevirtual 115, 3) := by decide +kernel
theorem dX1_goTurn_71 : decode cX1_goTurn 71 = .ok (.iload_n 1, 1) := by decide +kernel
theorem dX1_goTurn_72 : decode cX1_goTurn 72 = .ok (.ireturn, 1) := by decide +kernel
theorem dX1_isCatch_0 : decode cX1_isCatch 0 = .ok (.aload_n 0, 1) := by decide +kernel
theorem dX1_isCatch_1 : decode cX1_isCatch 1 = .ok (.getfield 30, 3) := by decide +kernel
theorem dX1_isCatch_4 : decode cX1_isCatch 4 = .ok (.iload_n 1, 1) := by decide +kernel
theorem dX1_isCatch_5 : decode cX1_isCatch 5 = .ok (.aaload, 1) := by decide +kernel
theorem dX1_isCatch_6 : decode cX1_isCatch 6 = .ok (.astore_n 2, 1) := by decide +kernel
theorem dX1_isCatch_7 : decode cX1_isCatch 7 = .ok (.aload_n 0, 1) := by decide +kernel
theorem dX1_isCatch_8 : decode cX1_isCatch 8 = .ok (.getfield 24, 3) := by decide +kernel
theorem dX1_isCatch_11 : decode cX1_isCatch 11 = .ok (.aload_n 2, 1) := by decide +kernel
theorem dX1_isCatch_12 : decode cX1_isCatch 12 = .ok (.getfield 77, 3) := by decide +kernel
theorem dX1_isCatch_15 : decode cX1_isCatch 15 = .ok (.aaload, 1) := by decide +kernel
theorem dX1_isCatch_16 : decode cX1_isCatch 16 = .ok (.astore_n 3, 1) := by decide +kernel
theorem dX1_isCatch_17 : decode cX1_isCatch 17 = .ok (.aload_n 0, 1) := by decide +kernel
theorem dX1_isCatch_18 : decode cX1_isCatch 18 = .ok (.iload_n 1, 1) := by decide +kernel
theorem dX1_isCatch_19 : decode cX1_isCatch 19 = .ok (.invokevirtual 118, 3) := by decide +kernel
theorem dX1_isCatch_22 : decode cX1_isCatch 22 = .ok (.ifCond .eq 15, 3) := by decide +kernel
theorem dX1_isCatch_25 : decode cX1_isCatch 25 = .ok (.aload_n 3, 1) := by decide +kernel
theorem dX1_isCatch_26 : decode cX1_isCatch 26 = .ok (.dup, 1) := by decide +kernel
theorem dX1_isCatch_27 : decode cX1_isCatch 27 = .ok (.getfield 121, 3) := by decide +kernel
theorem dX1_isCatch_30 : decode cX1_isCatch 30 = .ok (.iconst 1, 1) := by decide +kernel
theorem dX1_isCatch_31 : decode cX1_isCatch 31 = .ok (.iadd, 1) := by decide +kernel
theorem dX1_isCatch_32 : decode cX1_isCatch 32 = .ok (.putfield 121, 3) := by decide +kernel
theorem dX1_isCatch_35 : decode cX1_isCatch 35 = .ok (.iconst 0, 1) := by decide +kernel
theorem dX1_isCatch_36 : decode cX1_isCatch 36 = .ok (.ireturn, 1) := by decide +kernel
theorem dX1_isCatch_37 : decode cX1_isCatch 37 = .ok (.aload_n 3, 1) := by decide +kernel
theorem dX1_isCatch_38 : decode cX1_isCatch 38 = .ok (.getfield 64, 3) := by decide +kernel
theorem dX1_isCatch_41 : decode cX1_isCatch 41 = .ok (.aload_n 2, 1) := by decide +kernel
theorem dX1_isCatch_42 : decode cX1_isCatch 42 = .ok (.getfield 71, 3) := by decide +kernel
theorem dX1_isCatch_45 : decode cX1_isCatch 45 = .ok (.if_icmp .eq 15, 3) := by decide +kernel
theorem dX1_isCatch_48 : decode cX1_isCatch 48 = .ok (.aload_n 3, 1) := by decide +kernel
theorem dX1_isCatch_49 : decode cX1_isCatch 49 = .ok (.dup, 1) := by decide +kernel
theorem dX1_isCatch_50 : decode cX1_isCatch 50 = .ok (.getfield 124, 3) := by decide +kernel
theorem dX1_isCatch_53 : decode cX1_isCatch 53 = .ok (.iconst 1, 1) := by decide +kernel
theorem dX1_isCatch_54 : decode cX1_isCatch 54 = .ok (.iadd, 1) := by decide +kernel
theorem dX1_isCatch_55 : decode cX1_isCatch 55 = .ok (.putfield 124, 3) := by decide +kernel
theorem dX1_isCatch_58 : decode cX1_isCatch 58 = .ok (.iconst 0, 1) := by decide +kernel
theorem dX1_isCatch_59 : decode cX1_isCatch 59 = .ok (.ireturn, 1) := by decide +kernel
theorem dX1_isCatch_60 : decode cX1_isCatch 60 = .ok (.aload_n 3, 1) := by decide +kernel
theorem dX1_isCatch_61 : decode cX1_isCatch 61 = .ok (.dup, 1) := by decide +kernel
theorem dX1_isCatch_62 : decode cX1_isCatch 62 = .ok (.getfield 127, 3) := by decide +kernel
theorem dX1_isCatch_65 : decode cX1_isCatch 65 = .ok (.iconst 1, 1) := by decide +kernel
theorem dX1_isCatch_66 : decode cX1_isCatch 66 = .ok (.iadd, 1) := by decide +kernel
theorem dX1_isCatch_67 : decode cX1_isCatch 67 = .ok (.putfield 127, 3) := by decide +kernel
theorem dX1_isCatch_70 : decode cX1_isCatch 70 = .ok (.aload_n 0, 1) := by decide +kernel
theorem dX1_isCatch_71 : decode cX1_isCatch 71 = .ok (.getfield 18, 3) := by decide +kernel
theorem dX1_isCatch_74 : decode cX1_isCatch 74 = .ok (.getfield 61, 3) := by decide +kernel
theorem dX1_isCatch_77 : decode cX1_isCatch 77 = .ok (.aload_n 2, 1) := by decide +kernel
theorem dX1_isCatch_78 : decode cX1_isCatch 78 = .ok (.getfield 71, 3) := by decide +kernel
theorem dX1_isCatch_81 : decode cX1_isCatch 81 = .ok (.if_icmp .eq 5, 3) := by decide +kernel
theorem dX1_isCatch_84 : decode cX1_isCatch 84 = .ok (.iconst 0, 1) := by decide +kernel
theorem dX1_isCatch_85 : decode cX1_isCatch 85 = .ok (.ireturn, 1) := by decide +kernel
theorem dX1_isCatch_86 : decode cX1_isCatch 86 = .ok (.aload_n 3, 1) := by decide +kernel
theorem dX1_isCatch_87 : decode cX1_isCatch 87 = .ok (.dup, 1) := by decide +kernel
theorem dX1_isCatch_88 : decode cX1_isCatch 88 = .ok (.getfield 130, 3) := by decide +kernel
theorem dX1_isCatch_91 : decode cX1_isCatch 91 = .ok (.iconst 1, 1) := by decide +kernel
theorem dX1_isCatch_92 : decode cX1_isCatch 92 = .ok (.iadd, 1) := by decide +kernel
theorem dX1_isCatch_93 : decode cX1_isCatch 93 = .ok (.putfield 130, 3) := by decide +kernel
theorem dX1_isCatch_96 : decode cX1_isCatch 96 = .ok (.aload_n 0, 1) := by decide +kernel
theorem dX1_isCatch_97 : decode cX1_isCatch 97 = .ok (.getfield 18, 3) := by decide +kernel
theorem dX1_isCatch_100 : decode cX1_isCatch 100 = .ok (.aload_n 2, 1) := by decide +kernel
theorem dX1_isCatch_101 : decode cX1_isCatch 101 = .ok (.getfield 97, 3) := by decide +kernel
theorem dX1_isCatch_104 : decode cX1_isCatch 104 = .ok (.invokevirtual 133, 3) := by decide +kernel
theorem dX1_isCatch_107 : decode cX1_isCatch 107 = .ok (.iconst 1, 1) := by decide +kernel
theorem dX1_isCatch_108 : decode cX1_isCatch 108 = .ok (.ireturn, 1) := by decide +kernel
theorem dX1_dropFirstEchoes_0 : decode cX1_dropFirstEchoes 0 = .ok (.iload_n 1, 1) := by decide +kernel
theorem dX1_dropFirstEchoes_1 : decode cX1_dropFirstEchoes 1 = .ok (.istore_n 2, 1) := by decide +kernel
theorem dX1_dropFirstEchoes_2 : decode cX1_dropFirstEchoes 2 = .ok (.iload_n 2, 1) := by decide +kernel
theorem dX1_dropFirstEchoes_3 : decode cX1_dropFirstEchoes 3 = .ok (.aload_n 0, 1) := by decide +kernel
theorem dX1_dropFirstEchoes_4 : decode cX1_dropFirstEchoes 4 = .ok (.getfield 48, 3) := by decide +kernel
theorem dX1_dropFirstEchoes_7 : decode cX1_dropFirstEchoes 7 = .ok (.if_icmp .ge 39, 3) := by decide +kernel
theorem dX1_dropFirstEchoes_10 : decode cX1_dropFirstEchoes 10 = .ok (.aload_n 0, 1) := by decide +kernel
theorem dX1_dropFirstEchoes_11 : decode cX1_dropFirstEchoes 11 = .ok (.getfield 30, 3) := by decide +kernel
theorem dX1_dropFirstEchoes_14 : decode cX1_dropFirstEchoes 14 = .ok (.iload_n 2, 1) := by decide +kernel
theorem dX1_dropFirstEchoes_15 : decode cX1_dropFirstEchoes 15 = .ok (.iload_n 1, 1) := by decide +kernel
theorem dX1_dropFirstEchoes_16 : decode cX1_dropFirstEchoes 16 = .ok (.isub, 1) := by decide +kernel
theorem dX1_dropFirstEchoes_17 : decode cX1_dropFirstEchoes 17 = .ok (.aaload, 1) := by decide +kernel
theorem dX1_dropFirstEchoes_18 : decode cX1_dropFirstEchoes 18 = .ok (.astore_n 3, 1) := by decide +kernel
theorem dX1_dropFirstEchoes_19 : decode cX1_dropFirstEchoes 19 = .ok (.aload_n 0, 1) := by decide +kernel
theorem dX1_dropFirstEchoes_20 : decode cX1_dropFirstEchoes 20 = .ok (.getfield 30, 3) := by decide +kernel
theorem dX1_dropFirstEchoes_23 : decode cX1_dropFirstEchoes 23 = .ok (.iload_n 2, 1) := by decide +kernel
theorem dX1_dropFirstEchoes_24 : decode cX1_dropFirstEchoes 24 = .ok (.iload_n 1, 1) := by decide +kernel
theorem dX1_dropFirstEchoes_25 : decode cX1_dropFirstEchoes 25 = .ok (.isub, 1) := by decide +kernel
theorem dX1_dropFirstEchoes_26 : decode cX1_dropFirstEchoes 26 = .ok (.aload_n 0, 1) := by decide +kernel
theorem dX1_dropFirstEchoes_27 : decode cX1_dropFirstEchoes 27 = .ok (.getfield 30, 3) := by decide +kernel
theorem dX1_dropFirstEchoes_30 : decode cX1_dropFirstEchoes 30 = .ok (.iload_n 2, 1) := by decide +kernel
theorem dX1_dropFirstEchoes_31 : decode cX1_dropFirstEchoes 31 = .ok (.aaload, 1) := by decide +kernel
theorem dX1_dropFirstEchoes_32 : decode cX1_dropFirstEchoes 32 = .ok (.aastore, 1) := by decide +kernel
theorem dX1_dropFirstEchoes_33 : decode cX1_dropFirstEchoes 33 = .ok (.aload_n 0, 1) := by decide +kernel
theorem dX1_dropFirstEchoes_34 : decode cX1_dropFirstEchoes 34 = .ok (.getfield 30, 3) := by decide +kernel
theorem dX1_dropFirstEchoes_37 : decode cX1_dropFirstEchoes 37 = .ok (.iload_n 2, 1) := by decide +kernel
theorem dX1_dropFirstEchoes_38 : decode cX1_dropFirstEchoes 38 = .ok (.aload_n 3, 1) := by decide +kernel
theorem dX1_dropFirstEchoes_39 : decode cX1_dropFirstEchoes 39 = .ok (.aastore, 1) := by decide +kernel
theorem dX1_dropFirstEchoes_40 : decode cX1_dropFirstEchoes 40 = .ok (.iinc 2 1, 3) := by decide +kernel
theorem dX1_dropFirstEchoes_43 : decode cX1_dropFirstEchoes 43 = .ok (.goto (-41), 3) := by decide +kernel
theorem dX1_dropFirstEchoes_46 : decode cX1_dropFirstEchoes 46 = .ok (.aload_n 0, 1) := by decide +kernel
theorem dX1_dropFirstEchoes_47 : decode cX1_dropFirstEchoes 47 = .ok (.dup, 1) := by decide +kernel
theorem dX1_dropFirstEchoes_48 : decode cX1_dropFirstEchoes 48 = .ok (.getfield 48, 3) := by decide +kernel
theorem dX1_dropFirstEchoes_51 : decode cX1_dropFirstEchoes 51 = .ok (.iload_n 1, 1) := by decide +kernel
theorem dX1_dropFirstEchoes_52 : decode cX1_dropFirstEchoes 52 = .ok (.isub, 1) := by decide +kernel
theorem dX1_dropFirstEchoes_53 : decode cX1_dropFirstEchoes 53 = .ok (.putfield 48, 3) := by decide +kernel
theorem dX1_dropFirstEchoes_56 : decode cX1_dropFirstEchoes 56 = .ok (.return_, 1) := by decide +kernel
theorem dX1_echoClashes_0 : decode cX1_echoClashes 0 = .ok (.aload_n 0, 1) := by decide +kernel
theorem dX1_echoClashes_1 : decode cX1_echoClashes 1 = .ok (.getfield 30, 3) := by decide +kernel
theorem dX1_echoClashes_4 : decode cX1_echoClashes 4 = .ok (.iload_n 1, 1) := by decide +kernel
theorem dX1_echoClashes_5 : decode cX1_echoClashes 5 = .ok (.aaload, 1) := by decide +kernel
theorem dX1_echoClashes_6 : decode cX1_echoClashes 6 = .ok (.astore_n 2, 1) := by decide +kernel
theorem dX1_echoClashes_7 : decode cX1_echoClashes 7 = .ok (.iconst 0, 1) := by decide +kernel
theorem dX1_echoClashes_8 : decode cX1_echoClashes 8 = .ok (.istore_n 3, 1) := by decide +kernel
theorem dX1_echoClashes_9 : decode cX1_echoClashes 9 = .ok (.iload_n 3, 1) := by decide +kernel
theorem dX1_echoClashes_10 : decode cX1_echoClashes 10 = .ok (.aload_n 0, 1) := by decide +kernel
theorem dX1_echoClashes_11 : decode cX1_echoClashes 11 = .ok (.getfield 48, 3) := by decide +kernel
theorem dX1_echoClashes_14 : decode cX1_echoClashes 14 = .ok (.if_icmp .ge 36, 3) := by decide +kernel
theorem dX1_echoClashes_17 : decode cX1_echoClashes 17 = .ok (.iload_n 3, 1) := by decide +kernel
theorem dX1_echoClashes_18 : decode cX1_echoClashes 18 = .ok (.iload_n 1, 1) := by decide +kernel
theorem dX1_echoClashes_19 : decode cX1_echoClashes 19 = .ok (.if_icmp .eq 25, 3) := by decide +kernel
theorem dX1_echoClashes_22 : decode cX1_echoClashes 22 = .ok (.aload_n 0, 1) := by decide +kernel
theorem dX1_echoClashes_23 : decode cX1_echoClashes 23 = .ok (.getfield 30, 3) := by decide +kernel
theorem dX1_echoClashes_26 : decode cX1_echoClashes 26 = .ok (.iload_n 3, 1) := by decide +kernel
theorem dX1_echoClashes_27 : decode cX1_echoClashes 27 = .ok (.aaload, 1) := by decide +kernel
theorem dX1_echoClashes_28 : decode cX1_echoClashes 28 = .ok (.aload_n 2, 1) := by decide +kernel
theorem dX1_echoClashes_29 : decode cX1_echoClashes 29 = .ok (.getfield 71, 3) := by decide +kernel
theorem dX1_echoClashes_32 : decode cX1_echoClashes 32 = .ok (.aload_n 2, 1) := by decide +kernel
theorem dX1_echoClashes_33 : decode cX1_echoClashes 33 = .ok (.getfield 103, 3) := by decide +kernel
theorem dX1_echoClashes_36 : decode cX1_echoClashes 36 = .ok (.invokevirtual 136, 3) := by decide +kernel
theorem dX1_echoClashes_39 : decode cX1_echoClashes 39 = .ok (.ifCond .eq 5, 3) := by decide +kernel
theorem dX1_echoClashes_42 : decode cX1_echoClashes 42 = .ok (.iconst 1, 1) := by decide +kernel
theorem dX1_echoClashes_43 : decode cX1_echoClashes 43 = .ok (.ireturn, 1) := by decide +kernel
theorem dX1_echoClashes_44 : decode cX1_echoClashes 44 = .ok (.iinc 3 1, 3) := by decide +kernel
theorem dX1_echoClashes_47 : decode cX1_echoClashes 47 = .ok (.goto (-38), 3) := by decide +kernel
theorem dX1_echoClashes_50 : decode cX1_echoClashes 50 = .ok (.iconst 0, 1) := by decide +kernel
theorem dX1_echoClashes_51 : decode cX1_echoClashes 51 = .ok (.ireturn, 1) := by decide +kernel
theorem dX1_isEchoDue_0 : decode cX1_isEchoDue 0 = .ok (.iconst 0, 1) := by decide +kernel
theorem dX1_isEchoDue_1 : decode cX1_isEchoDue 1 = .ok (.istore_n 3, 1) := by decide +kernel
theorem dX1_isEchoDue_2 : decode cX1_isEchoDue 2 = .ok (.iload_n 3, 1) := by decide +kernel
theorem dX1_isEchoDue_3 : decode cX1_isEchoDue 3 = .ok (.aload_n 0, 1) := by decide +kernel
theorem dX1_isEchoDue_4 : decode cX1_isEchoDue 4 = .ok (.getfield 48, 3) := by decide +kernel
theorem dX1_isEchoDue_7 : decode cX1_isEchoDue 7 = .ok (.if_icmp .ge 30, 3) := by decide +kernel
theorem dX1_isEchoDue_10 : decode cX1_isEchoDue 10 = .ok (.aload_n 0, 1) := by decide +kernel
theorem dX1_isEchoDue_11 : decode cX1_isEchoDue 11 = .ok (.getfield 30, 3) := by decide +kernel
theorem dX1_isEchoDue_14 : decode cX1_isEchoDue 14 = .ok (.iload_n 3, 1) := by decide +kernel
theorem dX1_isEchoDue_15 : decode cX1_isEchoDue 15 = .ok (.aaload, 1) := by decide +kernel
theorem dX1_isEchoDue_16 : decode cX1_isEchoDue 16 = .ok (.iload_n 1, 1) := by decide +kernel
theorem dX1_isEchoDue_17 : decode cX1_isEchoDue 17 = .ok (.aload_n 0, 1) := by decide +kernel
theorem dX1_isEchoDue_18 : decode cX1_isEchoDue 18 = .ok (.getfield 41, 3) := by decide +kernel
theorem dX1_isEchoDue_21 : decode cX1_isEchoDue 21 = .ok (.iload_n 2, 1) := by decide +kernel
theorem dX1_isEchoDue_22 : decode cX1_isEchoDue 22 = .ok (.iadd, 1) := by decide +kernel
theorem dX1_isEchoDue_23 : decode cX1_isEchoDue 23 = .ok (.invokevirtual 136, 3) := by decide +kernel
theorem dX1_isEchoDue_26 : decode cX1_isEchoDue 26 = .ok (.ifCond .eq 5, 3) := by decide +kernel
theorem dX1_isEchoDue_29 : decode cX1_isEchoDue 29 = .ok (.iconst 1, 1) := by decide +kernel
theorem dX1_isEchoDue_30 : decode cX1_isEchoDue 30 = .ok (.ireturn, 1) := by decide +kernel
theorem dX1_isEchoDue_31 : decode cX1_isEchoDue 31 = .ok (.iinc 3 1, 3) := by decide +kernel
theorem dX1_isEchoDue_34 : decode cX1_isEchoDue 34 = .ok (.goto (-32), 3) := by decide +kernel
theorem dX1_isEchoDue_37 : decode cX1_isEchoDue 37 = .ok (.iconst 0, 1) := by decide +kernel
theorem dX1_isEchoDue_38 : decode cX1_isEchoDue 38 = .ok (.ireturn, 1) := by decide +kernel
theorem dX1_newEchoClashes_0 : decode cX1_newEchoClashes 0 = .ok (.aload_n 0, 1) := by decide +kernel
theorem dX1_newEchoClashes_1 : decode cX1_newEchoClashes 1 = .ok (.getfield 24, 3) := by decide +kernel
theorem dX1_newEchoClashes_4 : decode cX1_newEchoClashes 4 = .ok (.iload_n 1, 1) := by decide +kernel
theorem dX1_newEchoClashes_5 : decode cX1_newEchoClashes 5 = .ok (.aaload, 1) := by decide +kernel
theorem dX1_newEchoClashes_6 : decode cX1_newEchoClashes 6 = .ok (.getfield 64, 3) := by decide +kernel
theorem dX1_newEchoClashes_9 : decode cX1_newEchoClashes 9 = .ok (.istore_n 3, 1) := by decide +kernel
theorem dX1_newEchoClashes_10 : decode cX1_newEchoClashes 10 = .ok (.aload_n 0, 1) := by decide +kernel
theorem dX1_newEchoClashes_11 : decode cX1_newEchoClashes 11 = .ok (.iload_n 3, 1) := by decide +kernel
theorem dX1_newEchoClashes_12 : decode cX1_newEchoClashes 12 = .ok (.iload_n 2, 1) := by decide +kernel
theorem dX1_newEchoClashes_13 : decode cX1_newEchoClashes 13 = .ok (.invokevirtual 91, 3) := by decide +kernel
theorem dX1_newEchoClashes_16 : decode cX1_newEchoClashes 16 = .ok (.istore 4, 2) := by decide +kernel
theorem dX1_newEchoClashes_18 : decode cX1_newEchoClashes 18 = .ok (.iload 4, 2) := by decide +kernel
theorem dX1_newEchoClashes_20 : decode cX1_newEchoClashes 20 = .ok (.aload_n 0, 1) := by decide +kernel
theorem dX1_newEchoClashes_21 : decode cX1_newEchoClashes 21 = .ok (.iload_n 3, 1) := by decide +kernel
theorem dX1_newEchoClashes_22 : decode cX1_newEchoClashes 22 = .ok (.iconst 1, 1) := by decide +kernel
theorem dX1_newEchoClashes_23 : decode cX1_newEchoClashes 23 = .ok (.iload_n 2, 1) := by decide +kernel
theorem dX1_newEchoClashes_24 : decode cX1_newEchoClashes 24 = .ok (.isub, 1) := by decide +kernel
theorem dX1_newEchoClashes_25 : decode cX1_newEchoClashes 25 = .ok (.invokevirtual 91, 3) := by decide +kernel
theorem dX1_newEchoClashes_28 : decode cX1_newEchoClashes 28 = .ok (.if_icmp .eq 13, 3) := by decide +kernel
theorem dX1_newEchoClashes_31 : decode cX1_newEchoClashes 31 = .ok (.aload_n 0, 1) := by decide +kernel
theorem dX1_newEchoClashes_32 : decode cX1_newEchoClashes 32 = .ok (.iload_n 3, 1) := by decide +kernel
theorem dX1_newEchoClashes_33 : decode cX1_newEchoClashes 33 = .ok (.iload 4, 2) := by decide +kernel
theorem dX1_newEchoClashes_35 : decode cX1_newEchoClashes 35 = .ok (.invokevirtual 140, 3) := by decide +kernel
theorem dX1_newEchoClashes_38 : decode cX1_newEchoClashes 38 = .ok (.ifCond .eq 7, 3) := by decide +kernel
theorem dX1_newEchoClashes_41 : decode cX1_newEchoClashes 41 = .ok (.iconst 1, 1) := by decide +kernel
theorem dX1_newEchoClashes_42 : decode cX1_newEchoClashes 42 = .ok (.goto 4, 3) := by decide +kernel
theorem dX1_newEchoClashes_45 : decode cX1_newEchoClashes 45 = .ok (.iconst 0, 1) := by decide +kernel
theorem dX1_newEchoClashes_46 : decode cX1_newEchoClashes 46 = .ok (.ireturn, 1) := by decide +kernel
theorem dX1_turnsToWait_0 : decode cX1_turnsToWait 0 = .ok (.aload_n 0, 1) := by decide +kernel
theorem dX1_turnsToWait_1 : decode cX1_turnsToWait 1 = .ok (.getfield 24, 3) := by decide +kernel
theorem dX1_turnsToWait_4 : decode cX1_turnsToWait 4 = .ok (.iload_n 1, 1) := by decide +kernel
theorem dX1_turnsToWait_5 : decode cX1_turnsToWait 5 = .ok (.aaload, 1) := by decide +kernel
theorem dX1_turnsToWait_6 : decode cX1_turnsToWait 6 = .ok (.getfield 64, 3) := by decide +kernel
theorem dX1_turnsToWait_9 : decode cX1_turnsToWait 9 = .ok (.istore_n 2, 1) := by decide +kernel
theorem dX1_turnsToWait_10 : decode cX1_turnsToWait 10 = .ok (.aload_n 0, 1) := by decide +kernel
theorem dX1_turnsToWait_11 : decode cX1_turnsToWait 11 = .ok (.iload_n 2, 1) := by decide +kernel
theorem dX1_turnsToWait_12 : decode cX1_turnsToWait 12 = .ok (.iconst 0, 1) := by decide +kernel
theorem dX1_turnsToWait_13 : decode cX1_turnsToWait 13 = .ok (.invokevirtual 91, 3) := by decide +kernel
theorem dX1_turnsToWait_16 : decode cX1_turnsToWait 16 = .ok (.istore_n 3, 1) := by decide +kernel
theorem dX1_turnsToWait_17 : decode cX1_turnsToWait 17 = .ok (.aload_n 0, 1) := by decide +kernel
theorem dX1_turnsToWait_18 : decode cX1_turnsToWait 18 = .ok (.iload_n 2, 1) := by decide +kernel
theorem dX1_turnsToWait_19 : decode cX1_turnsToWait 19 = .ok (.iconst 1, 1) := by decide +kernel
theorem dX1_turnsToWait_20 : decode cX1_turnsToWait 20 = .ok (.invokevirtual 91, 3) := by decide +kernel
theorem dX1_turnsToWait_23 : decode cX1_turnsToWait 23 = .ok (.istore 4, 2) := by decide +kernel
theorem dX1_turnsToWait_25 : decode cX1_turnsToWait 25 = .ok (.iload_n 3, 1) := by decide +kernel
theorem dX1_turnsToWait_26 : decode cX1_turnsToWait 26 = .ok (.iload 4, 2) := by decide +kernel
theorem dX1_turnsToWait_28 : decode cX1_turnsToWait 28 = .ok (.if_icmp .ne 5, 3) := by decide +kernel
theorem dX1_turnsToWait_31 : decode cX1_turnsToWait 31 = .ok (.iconst (-1), 1) := by decide +kernel
theorem dX1_turnsToWait_32 : decode cX1_turnsToWait 32 = .ok (.ireturn, 1) := by decide +kernel
theorem dX1_turnsToWait_33 : decode cX1_turnsToWait 33 = .ok (.iconst 0, 1) := by decide +kernel
theorem dX1_turnsToWait_34 : decode cX1_turnsToWait 34 = .ok (.istore 5, 2) := by decide +kernel
theorem dX1_turnsToWait_36 : decode cX1_turnsToWait 36 = .ok (.iload 5, 2) := by decide +kernel
theorem dX1_turnsToWait_38 : decode cX1_turnsToWait 38 = .ok (.bipush 60, 2) := by decide +kernel
theorem dX1_turnsToWait_40 : decode cX1_turnsToWait 40 = .ok (.if_icmp .gt 37, 3) := by decide +kernel
theorem dX1_turnsToWait_43 : decode cX1_turnsToWait 43 = .ok (.aload_n 0, 1) := by decide +kernel
theorem dX1_turnsToWait_44 : decode cX1_turnsToWait 44 = .ok (.iload_n 2, 1) := by decide +kernel
theorem dX1_turnsToWait_45 : decode cX1_turnsToWait 45 = .ok (.iload 5, 2) := by decide +kernel
theorem dX1_turnsToWait_47 : decode cX1_turnsToWait 47 = .ok (.iload_n 3, 1) := by decide +kernel
theorem dX1_turnsToWait_48 : decode cX1_turnsToWait 48 = .ok (.iadd, 1) := by decide +kernel
theorem dX1_turnsToWait_49 : decode cX1_turnsToWait 49 = .ok (.invokevirtual 143, 3) := by decide +kernel
theorem dX1_turnsToWait_52 : decode cX1_turnsToWait 52 = .ok (.ifCond .ne 16, 3) := by decide +kernel
theorem dX1_turnsToWait_55 : decode cX1_turnsToWait 55 = .ok (.aload_n 0, 1) := by decide +kernel
theorem dX1_turnsToWait_56 : decode cX1_turnsToWait 56 = .ok (.iload_n 2, 1) := by decide +kernel
theorem dX1_turnsToWait_57 : decode cX1_turnsToWait 57 = .ok (.iload 5, 2) := by decide +kernel
theorem dX1_turnsToWait_59 : decode cX1_turnsToWait 59 = .ok (.iload 4, 2) := by decide +kernel
theorem dX1_turnsToWait_61 : decode cX1_turnsToWait 61 = .ok (.iadd, 1) := by decide +kernel
theorem dX1_turnsToWait_62 : decode cX1_turnsToWait 62 = .ok (.invokevirtual 143, 3) := by decide +kernel
theorem dX1_turnsToWait_65 : decode cX1_turnsToWait 65 = .ok (.ifCond .eq 6, 3) := by decide +kernel
theorem dX1_turnsToWait_68 : decode cX1_turnsToWait 68 = .ok (.iload 5, 2) := by decide +kernel
theorem dX1_turnsToWait_70 : decode cX1_turnsToWait 70 = .ok (.ireturn, 1) := by decide +kernel
theorem dX1_turnsToWait_71 : decode cX1_turnsToWait 71 = .ok (.iinc 5 1, 3) := by decide +kernel
theorem dX1_turnsToWait_74 : decode cX1_turnsToWait 74 = .ok (.goto (-38), 3) := by decide +kernel
theorem dX1_turnsToWait_77 : decode cX1_turnsToWait 77 = .ok (.iconst (-1), 1) := by decide +kernel
theorem dX1_turnsToWait_78 : decode cX1_turnsToWait 78 = .ok (.ireturn, 1) := by decide +kernel
theorem dX1_meetsBallAlone_0 : decode cX1_meetsBallAlone 0 = .ok (.aload_n 0, 1) := by decide +kernel
theorem dX1_meetsBallAlone_1 : decode cX1_meetsBallAlone 1 = .ok (.getfield 18, 3) := by decide +kernel
theorem dX1_meetsBallAlone_4 : decode cX1_meetsBallAlone 4 = .ok (.iload_n 2, 1) := by decide +kernel
theorem dX1_meetsBallAlone_5 : decode cX1_meetsBallAlone 5 = .ok (.aload_n 0, 1) := by decide +kernel
theorem dX1_meetsBallAlone_6 : decode cX1_meetsBallAlone 6 = .ok (.invokevirtual 73, 3) := by decide +kernel
theorem dX1_meetsBallAlone_9 : decode cX1_meetsBallAlone 9 = .ok (.invokevirtual 146, 3) := by decide +kernel
theorem dX1_meetsBallAlone_12 : decode cX1_meetsBallAlone 12 = .ok (.iload_n 1, 1) := by decide +kernel
theorem dX1_meetsBallAlone_13 : decode cX1_meetsBallAlone 13 = .ok (.if_icmp .ne 16, 3) := by decide +kernel
theorem dX1_meetsBallAlone_16 : decode cX1_meetsBallAlone 16 = .ok (.aload_n 0, 1) := by decide +kernel
theorem dX1_meetsBallAlone_17 : decode cX1_meetsBallAlone 17 = .ok (.iload_n 1, 1) := by decide +kernel
theorem dX1_meetsBallAlone_18 : decode cX1_meetsBallAlone 18 = .ok (.iload_n 2, 1) := by decide +kernel
theorem dX1_meetsBallAlone_19 : decode cX1_meetsBallAlone 19 = .ok (.invokevirtual 140, 3) := by decide +kernel
theorem dX1_meetsBallAlone_22 : decode cX1_meetsBallAlone 22 = .ok (.ifCond .ne 7, 3) := by decide +kernel
theorem dX1_meetsBallAlone_25 : decode cX1_meetsBallAlone 25 = .ok (.iconst 1, 1) := by decide +kernel
theorem dX1_meetsBallAlone_26 : decode cX1_meetsBallAlone 26 = .ok (.goto 4, 3) := by decide +kernel
theorem dX1_meetsBallAlone_29 : decode cX1_meetsBallAlone 29 = .ok (.iconst 0, 1) := by decide +kernel
theorem dX1_meetsBallAlone_30 : decode cX1_meetsBallAlone 30 = .ok (.ireturn, 1) := by decide +kernel
theorem dX1_turnsToQuiet_0 : decode cX1_turnsToQuiet 0 = .ok (.aload_n 0, 1) := by decide +kernel
theorem dX1_turnsToQuiet_1 : decode cX1_turnsToQuiet 1 = .ok (.getfield 48, 3) := by decide +kernel
theorem dX1_turnsToQuiet_4 : decode cX1_turnsToQuiet 4 = .ok (.ifCond .le 25, 3) := by decide +kernel
theorem dX1_turnsToQuiet_7 : decode cX1_turnsToQuiet 7 = .ok (.aload_n 0, 1) := by decide +kernel
theorem dX1_turnsToQuiet_8 : decode cX1_turnsToQuiet 8 = .ok (.getfield 30, 3) := by decide +kernel
theorem dX1_turnsToQuiet_11 : decode cX1_turnsToQuiet 11 = .ok (.aload_n 0, 1) := by decide +kernel
theorem dX1_turnsToQuiet_12 : decode cX1_turnsToQuiet 12 = .ok (.getfield 48, 3) := by decide +kernel
theorem dX1_turnsToQuiet_15 : decode cX1_turnsToQuiet 15 = .ok (.iconst 1, 1) := by decide +kernel
theorem dX1_turnsToQuiet_16 : decode cX1_turnsToQuiet 16 = .ok (.isub, 1) := by decide +kernel
theorem dX1_turnsToQuiet_17 : decode cX1_turnsToQuiet 17 = .ok (.aaload, 1) := by decide +kernel
theorem dX1_turnsToQuiet_18 : decode cX1_turnsToQuiet 18 = .ok (.getfield 103, 3) := by decide +kernel
theorem dX1_turnsToQuiet_21 : decode cX1_turnsToQuiet 21 = .ok (.aload_n 0, 1) := by decide +kernel
theorem dX1_turnsToQuiet_22 : decode cX1_turnsToQuiet 22 = .ok (.getfield 41, 3) := by decide +kernel
theorem dX1_turnsToQuiet_25 : decode cX1_turnsToQuiet 25 = .ok (.isub, 1) := by decide +kernel
theorem dX1_turnsToQuiet_26 : decode cX1_turnsToQuiet 26 = .ok (.goto 4, 3) := by decide +kernel
theorem dX1_turnsToQuiet_29 : decode cX1_turnsToQuiet 29 = .ok (.iconst 0, 1) := by decide +kernel
theorem dX1_turnsToQuiet_30 : decode cX1_turnsToQuiet 30 = .ok (.ireturn, 1) := by decide +kernel
theorem dX1_bestPlayer_0 : decode cX1_bestPlayer 0 = .ok (.iconst 0, 1) := by decide +kernel
theorem dX1_bestPlayer_1 : decode cX1_bestPlayer 1 = .ok (.istore_n 1, 1) := by decide +kernel
theorem dX1_bestPlayer_2 : decode cX1_bestPlayer 2 = .ok (.iconst 1, 1) := by decide +kernel
theorem dX1_bestPlayer_3 : decode cX1_bestPlayer 3 = .ok (.istore_n 2, 1) := by decide +kernel
theorem dX1_bestPlayer_4 : decode cX1_bestPlayer 4 = .ok (.iload_n 2, 1) := by decide +kernel
theorem dX1_bestPlayer_5 : decode cX1_bestPlayer 5 = .ok (.iconst 4, 1) := by decide +kernel
theorem dX1_bestPlayer_6 : decode cX1_bestPlayer 6 = .ok (.if_icmp .ge 29, 3) := by decide +kernel
theorem dX1_bestPlayer_9 : decode cX1_bestPlayer 9 = .ok (.aload_n 0, 1) := by decide +kernel
theorem dX1_bestPlayer_10 : decode cX1_bestPlayer 10 = .ok (.getfield 24, 3) := by decide +kernel
theorem dX1_bestPlayer_13 : decode cX1_bestPlayer 13 = .ok (.iload_n 2, 1) := by decide +kernel
theorem dX1_bestPlayer_14 : decode cX1_bestPlayer 14 = .ok (.aaload, 1) := by decide +kernel
theorem dX1_bestPlayer_15 : decode cX1_bestPlayer 15 = .ok (.aload_n 0, 1) := by decide +kernel
theorem dX1_bestPlayer_16 : decode cX1_bestPlayer 16 = .ok (.getfield 24, 3) := by decide +kernel
theorem dX1_bestPlayer_19 : decode cX1_bestPlayer 19 = .ok (.iload_n 1, 1) := by decide +kernel
theorem dX1_bestPlayer_20 : decode cX1_bestPlayer 20 = .ok (.aaload, 1) := by decide +kernel
theorem dX1_bestPlayer_21 : decode cX1_bestPlayer 21 = .ok (.invokevirtual 149, 3) := by decide +kernel
theorem dX1_bestPlayer_24 : decode cX1_bestPlayer 24 = .ok (.ifCond .eq 5, 3) := by decide +kernel
theorem dX1_bestPlayer_27 : decode cX1_bestPlayer 27 = .ok (.iload_n 2, 1) := by decide +kernel
theorem dX1_bestPlayer_28 : decode cX1_bestPlayer 28 = .ok (.istore_n 1, 1) := by decide +kernel
theorem dX1_bestPlayer_29 : decode cX1_bestPlayer 29 = .ok (.iinc 2 1, 3) := by decide +kernel
theorem dX1_bestPlayer_32 : decode cX1_bestPlayer 32 = .ok (.goto (-28), 3) := by decide +kernel
theorem dX1_bestPlayer_35 : decode cX1_bestPlayer 35 = .ok (.iload_n 1, 1) := by decide +kernel
theorem dX1_bestPlayer_36 : decode cX1_bestPlayer 36 = .ok (.ireturn, 1) := by decide +kernel
theorem dX1_shareAnswered_0 : decode cX1_shareAnswered 0 = .ok (.aload_n 0, 1) := by decide +kernel
theorem dX1_shareAnswered_1 : decode cX1_shareAnswered 1 = .ok (.iconst 4, 1) := by decide +kernel
theorem dX1_shareAnswered_2 : decode cX1_shareAnswered 2 = .ok (.invokevirtual 153, 3) := by decide +kernel
theorem dX1_shareAnswered_5 : decode cX1_shareAnswered 5 = .ok (.istore_n 1, 1) := by decide +kernel
theorem dX1_shareAnswered_6 : decode cX1_shareAnswered 6 = .ok (.iload_n 1, 1) := by decide +kernel
theorem dX1_shareAnswered_7 : decode cX1_shareAnswered 7 = .ok (.aload_n 0, 1) := by decide +kernel
theorem dX1_shareAnswered_8 : decode cX1_shareAnswered 8 = .ok (.iconst 5, 1) := by decide +kernel
theorem dX1_shareAnswered_9 : decode cX1_shareAnswered 9 = .ok (.invokevirtual 153, 3) := by decide +kernel
theorem dX1_shareAnswered_12 : decode cX1_shareAnswered 12 = .ok (.iadd, 1) := by decide +kernel
theorem dX1_shareAnswered_13 : decode cX1_shareAnswered 13 = .ok (.aload_n 0, 1) := by decide +kernel
theorem dX1_shareAnswered_14 : decode cX1_shareAnswered 14 = .ok (.bipush 6, 2) := by decide +kernel
theorem dX1_shareAnswered_16 : decode cX1_shareAnswered 16 = .ok (.invokevirtual 153, 3) := by decide +kernel
theorem dX1_shareAnswered_19 : decode cX1_shareAnswered 19 = .ok (.iadd, 1) := by decide +kernel
theorem dX1_shareAnswered_20 : decode cX1_shareAnswered 20 = .ok (.istore_n 2, 1) := by decide +kernel
theorem dX1_shareAnswered_21 : decode cX1_shareAnswered 21 = .ok (.iload_n 2, 1) := by decide +kernel
theorem dX1_shareAnswered_22 : decode cX1_shareAnswered 22 = .ok (.ifCond .le 11, 3) := by decide +kernel
theorem dX1_shareAnswered_25 : decode cX1_shareAnswered 25 = .ok (.iload_n 1, 1) := by decide +kernel
theorem dX1_shareAnswered_26 : decode cX1_shareAnswered 26 = .ok (.i2d, 1) := by decide +kernel
theorem dX1_shareAnswered_27 : decode cX1_shareAnswered 27 = .ok (.iload_n 2, 1) := by decide +kernel
theorem dX1_shareAnswered_28 : decode cX1_shareAnswered 28 = .ok (.i2d, 1) := by decide +kernel
theorem dX1_shareAnswered_29 : decode cX1_shareAnswered 29 = .ok (.ddiv, 1) := by decide +kernel
theorem dX1_shareAnswered_30 : decode cX1_shareAnswered 30 = .ok (.goto 4, 3) := by decide +kernel
theorem dX1_shareAnswered_33 : decode cX1_shareAnswered 33 = .ok (.dconst 1, 1) := by decide +kernel
theorem dX1_shareAnswered_34 : decode cX1_shareAnswered 34 = .ok (.dreturn, 1) := by decide +kernel
theorem dX1_playerNumber_0 : decode cX1_playerNumber 0 = .ok (.iload_n 2, 1) := by decide +kernel
theorem dX1_playerNumber_1 : decode cX1_playerNumber 1 = .ok (.tableswitch 95 0 5 #[39, 49, 59, 69, 75, 85], 39) := by decide +kernel
theorem dX1_playerNumber_40 : decode cX1_playerNumber 40 = .ok (.aload_n 0, 1) := by decide +kernel
theorem dX1_playerNumber_41 : decode cX1_playerNumber 41 = .ok (.getfield 24, 3) := by decide +kernel
theorem dX1_playerNumber_44 : decode cX1_playerNumber 44 = .ok (.iload_n 1, 1) := by decide +kernel
theorem dX1_playerNumber_45 : decode cX1_playerNumber 45 = .ok (.aaload, 1) := by decide +kernel
theorem dX1_playerNumber_46 : decode cX1_playerNumber 46 = .ok (.getfield 64, 3) := by decide +kernel
theorem dX1_playerNumber_49 : decode cX1_playerNumber 49 = .ok (.ireturn, 1) := by decide +kernel
theorem dX1_playerNumber_50 : decode cX1_playerNumber 50 = .ok (.aload_n 0, 1) := by decide +kernel
theorem dX1_playerNumber_51 : decode cX1_playerNumber 51 = .ok (.getfield 24, 3) := by decide +kernel
theorem dX1_playerNumber_54 : decode cX1_playerNumber 54 = .ok (.iload_n 1, 1) := by decide +kernel
theorem dX1_playerNumber_55 : decode cX1_playerNumber 55 = .ok (.aaload, 1) := by decide +kernel
theorem dX1_playerNumber_56 : decode cX1_playerNumber 56 = .ok (.getfield 130, 3) := by decide +kernel
theorem dX1_playerNumber_59 : decode cX1_playerNumber 59 = .ok (.ireturn, 1) := by decide +kernel
theorem dX1_playerNumber_60 : decode cX1_playerNumber 60 = .ok (.aload_n 0, 1) := by decide +kernel
theorem dX1_playerNumber_61 : decode cX1_playerNumber 61 = .ok (.getfield 24, 3) := by decide +kernel
theorem dX1_playerNumber_64 : decode cX1_playerNumber 64 = .ok (.iload_n 1, 1) := by decide +kernel
theorem dX1_playerNumber_65 : decode cX1_playerNumber 65 = .ok (.aaload, 1) := by decide +kernel
theorem dX1_playerNumber_66 : decode cX1_playerNumber 66 = .ok (.getfield 84, 3) := by decide +kernel
theorem dX1_playerNumber_69 : decode cX1_playerNumber 69 = .ok (.ireturn, 1) := by decide +kernel
theorem dX1_playerNumber_70 : decode cX1_playerNumber 70 = .ok (.aload_n 0, 1) := by decide +kernel
theorem dX1_playerNumber_71 : decode cX1_playerNumber 71 = .ok (.iload_n 1, 1) := by decide +kernel
theorem dX1_playerNumber_72 : decode cX1_playerNumber 72 = .ok (.invokevirtual 80, 3) := by decide +kernel
theorem dX1_playerNumber_75 : decode cX1_playerNumber 75 = .ok (.ireturn, 1) := by decide +kernel
theorem dX1_playerNumber_76 : decode cX1_playerNumber 76 = .ok (.aload_n 0, 1) := by decide +kernel
theorem dX1_playerNumber_77 : decode cX1_playerNumber 77 = .ok (.getfield 24, 3) := by decide +kernel
theorem dX1_playerNumber_80 : decode cX1_playerNumber 80 = .ok (.iload_n 1, 1) := by decide +kernel
theorem dX1_playerNumber_81 : decode cX1_playerNumber 81 = .ok (.aaload, 1) := by decide +kernel
theorem dX1_playerNumber_82 : decode cX1_playerNumber 82 = .ok (.getfield 127, 3) := by decide +kernel
theorem dX1_playerNumber_85 : decode cX1_playerNumber 85 = .ok (.ireturn, 1) := by decide +kernel
theorem dX1_playerNumber_86 : decode cX1_playerNumber 86 = .ok (.aload_n 0, 1) := by decide +kernel
theorem dX1_playerNumber_87 : decode cX1_playerNumber 87 = .ok (.getfield 24, 3) := by decide +kernel
theorem dX1_playerNumber_90 : decode cX1_playerNumber 90 = .ok (.iload_n 1, 1) := by decide +kernel
theorem dX1_playerNumber_91 : decode cX1_playerNumber 91 = .ok (.aaload, 1) := by decide +kernel
theorem dX1_playerNumber_92 : decode cX1_playerNumber 92 = .ok (.getfield 121, 3) := by decide +kernel
theorem dX1_playerNumber_95 : decode cX1_playerNumber 95 = .ok (.ireturn, 1) := by decide +kernel
theorem dX1_playerNumber_96 : decode cX1_playerNumber 96 = .ok (.aload_n 0, 1) := by decide +kernel
theorem dX1_playerNumber_97 : decode cX1_playerNumber 97 = .ok (.getfield 24, 3) := by decide +kernel
theorem dX1_playerNumber_100 : decode cX1_playerNumber 100 = .ok (.iload_n 1, 1) := by decide +kernel
theorem dX1_playerNumber_101 : decode cX1_playerNumber 101 = .ok (.aaload, 1) := by decide +kernel
theorem dX1_playerNumber_102 : decode cX1_playerNumber 102 = .ok (.getfield 124, 3) := by decide +kernel
theorem dX1_playerNumber_105 : decode cX1_playerNumber 105 = .ok (.ireturn, 1) := by decide +kernel
theorem dX1_sumOfPlayers_0 : decode cX1_sumOfPlayers 0 = .ok (.iconst 0, 1) := by decide +kernel
theorem dX1_sumOfPlayers_1 : decode cX1_sumOfPlayers 1 = .ok (.istore_n 2, 1) := by decide +kernel
theorem dX1_sumOfPlayers_2 : decode cX1_sumOfPlayers 2 = .ok (.iconst 0, 1) := by decide +kernel
theorem dX1_sumOfPlayers_3 : decode cX1_sumOfPlayers 3 = .ok (.istore_n 3, 1) := by decide +kernel
theorem dX1_sumOfPlayers_4 : decode cX1_sumOfPlayers 4 = .ok (.iload_n 3, 1) := by decide +kernel
theorem dX1_sumOfPlayers_5 : decode cX1_sumOfPlayers 5 = .ok (.iconst 4, 1) := by decide +kernel
theorem dX1_sumOfPlayers_6 : decode cX1_sumOfPlayers 6 = .ok (.if_icmp .ge 18, 3) := by decide +kernel
theorem dX1_sumOfPlayers_9 : decode cX1_sumOfPlayers 9 = .ok (.iload_n 2, 1) := by decide +kernel
theorem dX1_sumOfPlayers_10 : decode cX1_sumOfPlayers 10 = .ok (.aload_n 0, 1) := by decide +kernel
theorem dX1_sumOfPlayers_11 : decode cX1_sumOfPlayers 11 = .ok (.iload_n 3, 1) := by decide +kernel
theorem dX1_sumOfPlayers_12 : decode cX1_sumOfPlayers 12 = .ok (.iload_n 1, 1) := by decide +kernel
theorem dX1_sumOfPlayers_13 : decode cX1_sumOfPlayers 13 = .ok (.invokevirtual 156, 3) := by decide +kernel
theorem dX1_sumOfPlayers_16 : decode cX1_sumOfPlayers 16 = .ok (.iadd, 1) := by decide +kernel
theorem dX1_sumOfPlayers_17 : decode cX1_sumOfPlayers 17 = .ok (.istore_n 2, 1) := by decide +kernel
theorem dX1_sumOfPlayers_18 : decode cX1_sumOfPlayers 18 = .ok (.iinc 3 1, 3) := by decide +kernel
theorem dX1_sumOfPlayers_21 : decode cX1_sumOfPlayers 21 = .ok (.goto (-17), 3) := by decide +kernel
theorem dX1_sumOfPlayers_24 : decode cX1_sumOfPlayers 24 = .ok (.iload_n 2, 1) := by decide +kernel
theorem dX1_sumOfPlayers_25 : decode cX1_sumOfPlayers 25 = .ok (.ireturn, 1) := by decide +kernel
theorem dX1_echoNumber_0 : decode cX1_echoNumber 0 = .ok (.iload_n 1, 1) := by decide +kernel
theorem dX1_echoNumber_1 : decode cX1_echoNumber 1 = .ok (.ifCond .lt 11, 3) := by decide +kernel
theorem dX1_echoNumber_4 : decode cX1_echoNumber 4 = .ok (.iload_n 1, 1) := by decide +kernel
theorem dX1_echoNumber_5 : decode cX1_echoNumber 5 = .ok (.aload_n 0, 1) := by decide +kernel
theorem dX1_echoNumber_6 : decode cX1_echoNumber 6 = .ok (.getfield 48, 3) := by decide +kernel
theorem dX1_echoNumber_9 : decode cX1_echoNumber 9 = .ok (.if_icmp .lt 5, 3) := by decide +kernel
theorem dX1_echoNumber_12 : decode cX1_echoNumber 12 = .ok (.iconst (-1), 1) := by decide +kernel
theorem dX1_echoNumber_13 : decode cX1_echoNumber 13 = .ok (.ireturn, 1) := by decide +kernel
theorem dX1_echoNumber_14 : decode cX1_echoNumber 14 = .ok (.aload_n 0, 1) := by decide +kernel
theorem dX1_echoNumber_15 : decode cX1_echoNumber 15 = .ok (.getfield 30, 3) := by decide +kernel
theorem dX1_echoNumber_18 : decode cX1_echoNumber 18 = .ok (.iload_n 1, 1) := by decide +kernel
theorem dX1_echoNumber_19 : decode cX1_echoNumber 19 = .ok (.aaload, 1) := by decide +kernel
theorem dX1_echoNumber_20 : decode cX1_echoNumber 20 = .ok (.astore_n 3, 1) := by decide +kernel
theorem dX1_echoNumber_21 : decode cX1_echoNumber 21 = .ok (.iload_n 2, 1) := by decide +kernel
theorem dX1_echoNumber_22 : decode cX1_echoNumber 22 = .ok (.tableswitch 64 0 4 #[34, 39, 44, 49, 59], 34) := by decide +kernel
theorem dX1_echoNumber_56 : decode cX1_echoNumber 56 = .ok (.aload_n 3, 1) := by decide +kernel
theorem dX1_echoNumber_57 : decode cX1_echoNumber 57 = .ok (.getfield 77, 3) := by decide +kernel
theorem dX1_echoNumber_60 : decode cX1_echoNumber 60 = .ok (.ireturn, 1) := by decide +kernel
theorem dX1_echoNumber_61 : decode cX1_echoNumber 61 = .ok (.aload_n 3, 1) := by decide +kernel
theorem dX1_echoNumber_62 : decode cX1_echoNumber 62 = .ok (.getfield 71, 3) := by decide +kernel
theorem dX1_echoNumber_65 : decode cX1_echoNumber 65 = .ok (.ireturn, 1) := by decide +kernel
theorem dX1_echoNumber_66 : decode cX1_echoNumber 66 = .ok (.aload_n 3, 1) := by decide +kernel
theorem dX1_echoNumber_67 : decode cX1_echoNumber 67 = .ok (.getfield 97, 3) := by decide +kernel
theorem dX1_echoNumber_70 : decode cX1_echoNumber 70 = .ok (.ireturn, 1) := by decide +kernel
theorem dX1_echoNumber_71 : decode cX1_echoNumber 71 = .ok (.aload_n 3, 1) := by decide +kernel
theorem dX1_echoNumber_72 : decode cX1_echoNumber 72 = .ok (.getfield 103, 3) := by decide +kernel
theorem dX1_echoNumber_75 : decode cX1_echoNumber 75 = .ok (.aload_n 0, 1) := by decide +kernel
theorem dX1_echoNumber_76 : decode cX1_echoNumber 76 = .ok (.getfield 41, 3) := by decide +kernel
theorem dX1_echoNumber_79 : decode cX1_echoNumber 79 = .ok (.isub, 1) := by decide +kernel
theorem dX1_echoNumber_80 : decode cX1_echoNumber 80 = .ok (.ireturn, 1) := by decide +kernel
theorem dX1_echoNumber_81 : decode cX1_echoNumber 81 = .ok (.aload_n 3, 1) := by decide +kernel
theorem dX1_echoNumber_82 : decode cX1_echoNumber 82 = .ok (.getfield 100, 3) := by decide +kernel
theorem dX1_echoNumber_85 : decode cX1_echoNumber 85 = .ok (.ireturn, 1) := by decide +kernel
theorem dX1_echoNumber_86 : decode cX1_echoNumber 86 = .ok (.aload_n 0, 1) := by decide +kernel
theorem dX1_echoNumber_87 : decode cX1_echoNumber 87 = .ok (.iload_n 1, 1) := by decide +kernel
theorem dX1_echoNumber_88 : decode cX1_echoNumber 88 = .ok (.invokevirtual 118, 3) := by decide +kernel
theorem dX1_echoNumber_91 : decode cX1_echoNumber 91 = .ok (.ifCond .eq 7, 3) := by decide +kernel
theorem dX1_echoNumber_94 : decode cX1_echoNumber 94 = .ok (.iconst 1, 1) := by decide +kernel
theorem dX1_echoNumber_95 : decode cX1_echoNumber 95 = .ok (.goto 4, 3) := by decide +kernel
theorem dX1_echoNumber_98 : decode cX1_echoNumber 98 = .ok (.iconst 0, 1) := by decide +kernel
theorem dX1_echoNumber_99 : decode cX1_echoNumber 99 = .ok (.ireturn, 1) := by decide +kernel
theorem dX1_number_0 : decode cX1_number 0 = .ok (.iload_n 1, 1) := by decide +kernel
theorem dX1_number_1 : decode cX1_number 1 = .ok (.tableswitch 122 0 9 #[55, 60, 68, 76, 84, 89, 97, 103, 109, 116], 55) := by decide +kernel
theorem dX1_number_56 : decode cX1_number 56 = .ok (.aload_n 0, 1) := by decide +kernel
theorem dX1_number_57 : decode cX1_number 57 = .ok (.getfield 41, 3) := by decide +kernel
theorem dX1_number_60 : decode cX1_number 60 = .ok (.ireturn, 1) := by decide +kernel
theorem dX1_number_61 : decode cX1_number 61 = .ok (.aload_n 0, 1) := by decide +kernel
theorem dX1_number_62 : decode cX1_number 62 = .ok (.getfield 18, 3) := by decide +kernel
theorem dX1_number_65 : decode cX1_number 65 = .ok (.getfield 61, 3) := by decide +kernel
theorem dX1_number_68 : decode cX1_number 68 = .ok (.ireturn, 1) := by decide +kernel
theorem dX1_number_69 : decode cX1_number 69 = .ok (.aload_n 0, 1) := by decide +kernel
theorem dX1_number_70 : decode cX1_number 70 = .ok (.getfield 18, 3) := by decide +kernel
theorem dX1_number_73 : decode cX1_number 73 = .ok (.getfield 159, 3) := by decide +kernel
theorem dX1_number_76 : decode cX1_number 76 = .ok (.ireturn, 1) := by decide +kernel
theorem dX1_number_77 : decode cX1_number 77 = .ok (.aload_n 0, 1) := by decide +kernel
theorem dX1_number_78 : decode cX1_number 78 = .ok (.getfield 18, 3) := by decide +kernel
theorem dX1_number_81 : decode cX1_number 81 = .ok (.invokevirtual 162, 3) := by decide +kernel
theorem dX1_number_84 : decode cX1_number 84 = .ok (.ireturn, 1) := by decide +kernel
theorem dX1_number_85 : decode cX1_number 85 = .ok (.aload_n 0, 1) := by decide +kernel
theorem dX1_number_86 : decode cX1_number 86 = .ok (.getfield 48, 3) := by decide +kernel
theorem dX1_number_89 : decode cX1_number 89 = .ok (.ireturn, 1) := by decide +kernel
theorem dX1_number_90 : decode cX1_number 90 = .ok (.iconst 2, 1) := by decide +kernel
theorem dX1_number_91 : decode cX1_number 91 = .ok (.aload_n 0, 1) := by decide +kernel
theorem dX1_number_92 : decode cX1_number 92 = .ok (.iconst 2, 1) := by decide +kernel
theorem dX1_number_93 : decode cX1_number 93 = .ok (.invokevirtual 153, 3) := by decide +kernel
theorem dX1_number_96 : decode cX1_number 96 = .ok (.imul, 1) := by decide +kernel
theorem dX1_number_97 : decode cX1_number 97 = .ok (.ireturn, 1) := by decide +kernel
theorem dX1_number_98 : decode cX1_number 98 = .ok (.aload_n 0, 1) := by decide +kernel
theorem dX1_number_99 : decode cX1_number 99 = .ok (.iconst 4, 1) := by decide +kernel
theorem dX1_number_100 : decode cX1_number 100 = .ok (.invokevirtual 153, 3) := by decide +kernel
theorem dX1_number_103 : decode cX1_number 103 = .ok (.ireturn, 1) := by decide +kernel
theorem dX1_number_104 : decode cX1_number 104 = .ok (.aload_n 0, 1) := by decide +kernel
theorem dX1_number_105 : decode cX1_number 105 = .ok (.iconst 5, 1) := by decide +kernel
theorem dX1_number_106 : decode cX1_number 106 = .ok (.invokevirtual 153, 3) := by decide +kernel
theorem dX1_number_109 : decode cX1_number 109 = .ok (.ireturn, 1) := by decide +kernel
theorem dX1_number_110 : decode cX1_number 110 = .ok (.aload_n 0, 1) := by decide +kernel
theorem dX1_number_111 : decode cX1_number 111 = .ok (.bipush 6, 2) := by decide +kernel
theorem dX1_number_113 : decode cX1_number 113 = .ok (.invokevirtual 153, 3) := by decide +kernel
theorem dX1_number_116 : decode cX1_number 116 = .ok (.ireturn, 1) := by decide +kernel
theorem dX1_number_117 : decode cX1_number 117 = .ok (.aload_n 0, 1) := by decide +kernel
theorem dX1_number_118 : decode cX1_number 118 = .ok (.iconst 1, 1) := by decide +kernel
theorem dX1_number_119 : decode cX1_number 119 = .ok (.invokevirtual 153, 3) := by decide +kernel
theorem dX1_number_122 : decode cX1_number 122 = .ok (.ireturn, 1) := by decide +kernel
theorem dX1_number_123 : decode cX1_number 123 = .ok (.aload_n 0, 1) := by decide +kernel
theorem dX1_number_124 : decode cX1_number 124 = .ok (.getfield 45, 3) := by decide +kernel
theorem dX1_number_127 : decode cX1_number 127 = .ok (.ireturn, 1) := by decide +kernel
end
section
theorem dX2_init_0 : decode cX2_init 0 = .ok (.aload_n 0, 1) := by decide +kernel
theorem dX2_init_1 : decode cX2_init 1 = .ok (.invokespecial 1, 3) := by decide +kernel
theorem dX2_init_4 : decode cX2_init 4 = .ok (.return_, 1) := by decide +kernel
theorem dX2_copyFrom_0 : decode cX2_copyFrom 0 = .ok (.aload_n 0, 1) := by decide +kernel
theorem dX2_copyFrom_1 : decode cX2_copyFrom 1 = .ok (.aload_n 1, 1) := by decide +kernel
theorem dX2_copyFrom_2 : decode cX2_copyFrom 2 = .ok (.getfield 7, 3) := by decide +kernel
theorem dX2_copyFrom_5 : decode cX2_copyFrom 5 = .ok (.putfield 7, 3) := by decide +kernel
theorem dX2_copyFrom_8 : decode cX2_copyFrom 8 = .ok (.aload_n 0, 1) := by decide +kernel
theorem dX2_copyFrom_9 : decode cX2_copyFrom 9 = .ok (.aload_n 1, 1) := by decide +kernel
theorem dX2_copyFrom_10 : decode cX2_copyFrom 10 = .ok (.getfield 13, 3) := by decide +kernel
theorem dX2_copyFrom_13 : decode cX2_copyFrom 13 = .ok (.putfield 13, 3) := by decide +kernel
theorem dX2_copyFrom_16 : decode cX2_copyFrom 16 = .ok (.aload_n 0, 1) := by decide +kernel
theorem dX2_copyFrom_17 : decode cX2_copyFrom 17 = .ok (.aload_n 1, 1) := by decide +kernel
theorem dX2_copyFrom_18 : decode cX2_copyFrom 18 = .ok (.getfield 16, 3) := by decide +kernel
theorem dX2_copyFrom_21 : decode cX2_copyFrom 21 = .ok (.putfield 16, 3) := by decide +kernel
theorem dX2_copyFrom_24 : decode cX2_copyFrom 24 = .ok (.aload_n 0, 1) := by decide +kernel
theorem dX2_copyFrom_25 : decode cX2_copyFrom 25 = .ok (.aload_n 1, 1) := by decide +kernel
theorem dX2_copyFrom_26 : decode cX2_copyFrom 26 = .ok (.getfield 19, 3) := by decide +kernel
theorem dX2_copyFrom_29 : decode cX2_copyFrom 29 = .ok (.putfield 19, 3) := by decide +kernel
theorem dX2_copyFrom_32 : decode cX2_copyFrom 32 = .ok (.aload_n 0, 1) := by decide +kernel
theorem dX2_copyFrom_33 : decode cX2_copyFrom 33 = .ok (.aload_n 1, 1) := by decide +kernel
theorem dX2_copyFrom_34 : decode cX2_copyFrom 34 = .ok (.getfield 22, 3) := by decide +kernel
theorem dX2_copyFrom_37 : decode cX2_copyFrom 37 = .ok (.putfield 22, 3) := by decide +kernel
theorem dX2_copyFrom_40 : decode cX2_copyFrom 40 = .ok (.return_, 1) := by decide +kernel
theorem dX2_comesTo_0 : decode cX2_comesTo 0 = .ok (.aload_n 0, 1) := by decide +kernel
theorem dX2_comesTo_1 : decode cX2_comesTo 1 = .ok (.getfield 13, 3) := by decide +kernel
theorem dX2_comesTo_4 : decode cX2_comesTo 4 = .ok (.iload_n 1, 1) := by decide +kernel
theorem dX2_comesTo_5 : decode cX2_comesTo 5 = .ok (.if_icmp .ne 15, 3) := by decide +kernel
theorem dX2_comesTo_8 : decode cX2_comesTo 8 = .ok (.aload_n 0, 1) := by decide +kernel
theorem dX2_comesTo_9 : decode cX2_comesTo 9 = .ok (.getfield 19, 3) := by decide +kernel
theorem dX2_comesTo_12 : decode cX2_comesTo 12 = .ok (.iload_n 2, 1) := by decide +kernel
theorem dX2_comesTo_13 : decode cX2_comesTo 13 = .ok (.if_icmp .ne 7, 3) := by decide +kernel
theorem dX2_comesTo_16 : decode cX2_comesTo 16 = .ok (.iconst 1, 1) := by decide +kernel
theorem dX2_comesTo_17 : decode cX2_comesTo 17 = .ok (.goto 4, 3) := by decide +kernel
theorem dX2_comesTo_20 : decode cX2_comesTo 20 = .ok (.iconst 0, 1) := by decide +kernel
theorem dX2_comesTo_21 : decode cX2_comesTo 21 = .ok (.ireturn, 1) := by decide +kernel
theorem dX3_init_0 : decode cX3_init 0 = .ok (.aload_n 0, 1) := by decide +kernel
theorem dX3_init_1 : decode cX3_init 1 = .ok (.invokespecial 1, 3) := by decide +kernel
theorem dX3_init_4 : decode cX3_init 4 = .ok (.aload_n 0, 1) := by decide +kernel
theorem dX3_init_5 : decode cX3_init 5 = .ok (.bipush 6, 2) := by decide +kernel
theorem dX3_init_7 : decode cX3_init 7 = .ok (.anewarray 9, 3) := by decide +kernel
theorem dX3_init_10 : decode cX3_init 10 = .ok (.putfield 11, 3) := by decide +kernel
theorem dX3_init_13 : decode cX3_init 13 = .ok (.iconst 0, 1) := by decide +kernel
theorem dX3_init_14 : decode cX3_init 14 = .ok (.istore_n 1, 1) := by decide +kernel
theorem dX3_init_15 : decode cX3_init 15 = .ok (.iload_n 1, 1) := by decide +kernel
theorem dX3_init_16 : decode cX3_init 16 = .ok (.bipush 6, 2) := by decide +kernel
theorem dX3_init_18 : decode cX3_init 18 = .ok (.if_icmp .ge 22, 3) := by decide +kernel
theorem dX3_init_21 : decode cX3_init 21 = .ok (.aload_n 0, 1) := by decide +kernel
theorem dX3_init_22 : decode cX3_init 22 = .ok (.getfield 11, 3) := by decide +kernel
theorem dX3_init_25 : decode cX3_init 25 = .ok (.iload_n 1, 1) := by decide +kernel
theorem dX3_init_26 : decode cX3_init 26 = .ok (.new 9, 3) := by decide +kernel
theorem dX3_init_29 : decode cX3_init 29 = .ok (.dup, 1) := by decide +kernel
theorem dX3_init_30 : decode cX3_init 30 = .ok (.invokespecial 15, 3) := by decide +kernel
theorem dX3_init_33 : decode cX3_init 33 = .ok (.aastore, 1) := by decide +kernel
theorem dX3_init_34 : decode cX3_init 34 = .ok (.iinc 1 1, 3) := by decide +kernel
theorem dX3_init_37 : decode cX3_init 37 = .ok (.goto (-22), 3) := by decide +kernel
theorem dX3_init_40 : decode cX3_init 40 = .ok (.return_, 1) := by decide +kernel
theorem dX3_save_0 : decode cX3_save 0 = .ok (.aload_n 0, 1) := by decide +kernel
theorem dX3_save_1 : decode cX3_save 1 = .ok (.getfield 16, 3) := by decide +kernel
theorem dX3_save_4 : decode cX3_save 4 = .ok (.bipush 6, 2) := by decide +kernel
theorem dX3_save_6 : decode cX3_save 6 = .ok (.if_icmp .lt 7, 3) := by decide +kernel
theorem dX3_save_9 : decode cX3_save 9 = .ok (.aload_n 0, 1) := by decide +kernel
theorem dX3_save_10 : decode cX3_save 10 = .ok (.invokevirtual 20, 3) := by decide +kernel
theorem dX3_save_13 : decode cX3_save 13 = .ok (.aload_n 0, 1) := by decide +kernel
theorem dX3_save_14 : decode cX3_save 14 = .ok (.getfield 11, 3) := by decide +kernel
theorem dX3_save_17 : decode cX3_save 17 = .ok (.aload_n 0, 1) := by decide +kernel
theorem dX3_save_18 : decode cX3_save 18 = .ok (.getfield 16, 3) := by decide +kernel
theorem dX3_save_21 : decode cX3_save 21 = .ok (.aaload, 1) := by decide +kernel
theorem dX3_save_22 : decode cX3_save 22 = .ok (.aload_n 1, 1) := by decide +kernel
theorem dX3_save_23 : decode cX3_save 23 = .ok (.invokevirtual 23, 3) := by decide +kernel
theorem dX3_save_26 : decode cX3_save 26 = .ok (.aload_n 0, 1) := by decide +kernel
theorem dX3_save_27 : decode cX3_save 27 = .ok (.dup, 1) := by decide +kernel
theorem dX3_save_28 : decode cX3_save 28 = .ok (.getfield 16, 3) := by decide +kernel
theorem dX3_save_31 : decode cX3_save 31 = .ok (.iconst 1, 1) := by decide +kernel
theorem dX3_save_32 : decode cX3_save 32 = .ok (.iadd, 1) := by decide +kernel
theorem dX3_save_33 : decode cX3_save 33 = .ok (.putfield 16, 3) := by decide +kernel
theorem dX3_save_36 : decode cX3_save 36 = .ok (.return_, 1) := by decide +kernel
theorem dX3_dropOldest_0 : decode cX3_dropOldest 0 = .ok (.aload_n 0, 1) := by decide +kernel
theorem dX3_dropOldest_1 : decode cX3_dropOldest 1 = .ok (.getfield 11, 3) := by decide +kernel
theorem dX3_dropOldest_4 : decode cX3_dropOldest 4 = .ok (.iconst 0, 1) := by decide +kernel
theorem dX3_dropOldest_5 : decode cX3_dropOldest 5 = .ok (.aaload, 1) := by decide +kernel
theorem dX3_dropOldest_6 : decode cX3_dropOldest 6 = .ok (.astore_n 1, 1) := by decide +kernel
theorem dX3_dropOldest_7 : decode cX3_dropOldest 7 = .ok (.iconst 1, 1) := by decide +kernel
theorem dX3_dropOldest_8 : decode cX3_dropOldest 8 = .ok (.istore_n 2, 1) := by decide +kernel
theorem dX3_dropOldest_9 : decode cX3_dropOldest 9 = .ok (.iload_n 2, 1) := by decide +kernel
theorem dX3_dropOldest_10 : decode cX3_dropOldest 10 = .ok (.bipush 6, 2) := by decide +kernel
theorem dX3_dropOldest_12 : decode cX3_dropOldest 12 = .ok (.if_icmp .ge 23, 3) := by decide +kernel
theorem dX3_dropOldest_15 : decode cX3_dropOldest 15 = .ok (.aload_n 0, 1) := by decide +kernel
theorem dX3_dropOldest_16 : decode cX3_dropOldest 16 = .ok (.getfield 11, 3) := by decide +kernel
theorem dX3_dropOldest_19 : decode cX3_dropOldest 19 = .ok (.iload_n 2, 1) := by decide +kernel
theorem dX3_dropOldest_20 : decode cX3_dropOldest 20 = .ok (.iconst 1, 1) := by decide +kernel
theorem dX3_dropOldest_21 : decode cX3_dropOldest 21 = .ok (.isub, 1) := by decide +kernel
theorem dX3_dropOldest_22 : decode cX3_dropOldest 22 = .ok (.aload_n 0, 1) := by decide +kernel
theorem dX3_dropOldest_23 : decode cX3_dropOldest 23 = .ok (.getfield 11, 3) := by decide +kernel
theorem dX3_dropOldest_26 : decode cX3_dropOldest 26 = .ok (.iload_n 2, 1) := by decide +kernel
theorem dX3_dropOldest_27 : decode cX3_dropOldest 27 = .ok (.aaload, 1) := by decide +kernel
theorem dX3_dropOldest_28 : decode cX3_dropOldest 28 = .ok (.aastore, 1) := by decide +kernel
theorem dX3_dropOldest_29 : decode cX3_dropOldest 29 = .ok (.iinc 2 1, 3) := by decide +kernel
theorem dX3_dropOldest_32 : decode cX3_dropOldest 32 = .ok (.goto (-23), 3) := by decide +kernel
theorem dX3_dropOldest_35 : decode cX3_dropOldest 35 = .ok (.aload_n 0, 1) := by decide +kernel
theorem dX3_dropOldest_36 : decode cX3_dropOldest 36 = .ok (.getfield 11, 3) := by decide +kernel
theorem dX3_dropOldest_39 : decode cX3_dropOldest 39 = .ok (.iconst 5, 1) := by decide +kernel
theorem dX3_dropOldest_40 : decode cX3_dropOldest 40 = .ok (.aload_n 1, 1) := by decide +kernel
theorem dX3_dropOldest_41 : decode cX3_dropOldest 41 = .ok (.aastore, 1) := by decide +kernel
theorem dX3_dropOldest_42 : decode cX3_dropOldest 42 = .ok (.aload_n 0, 1) := by decide +kernel
theorem dX3_dropOldest_43 : decode cX3_dropOldest 43 = .ok (.iconst 5, 1) := by decide +kernel
theorem dX3_dropOldest_44 : decode cX3_dropOldest 44 = .ok (.putfield 16, 3) := by decide +kernel
theorem dX3_dropOldest_47 : decode cX3_dropOldest 47 = .ok (.return_, 1) := by decide +kernel
theorem dX3_restoreLatest_0 : decode cX3_restoreLatest 0 = .ok (.aload_n 0, 1) := by decide +kernel
theorem dX3_restoreLatest_1 : decode cX3_restoreLatest 1 = .ok (.getfield 16, 3) := by decide +kernel
theorem dX3_restoreLatest_4 : decode cX3_restoreLatest 4 = .ok (.ifCond .gt 4, 3) := by decide +kernel
theorem dX3_restoreLatest_7 : decode cX3_restoreLatest 7 = .ok (.return_, 1) := by decide +kernel
theorem dX3_restoreLatest_8 : decode cX3_restoreLatest 8 = .ok (.aload_n 0, 1) := by decide +kernel
theorem dX3_restoreLatest_9 : decode cX3_restoreLatest 9 = .ok (.dup, 1) := by decide +kernel
theorem dX3_restoreLatest_10 : decode cX3_restoreLatest 10 = .ok (.getfield 16, 3) := by decide +kernel
theorem dX3_restoreLatest_13 : decode cX3_restoreLatest 13 = .ok (.iconst 1, 1) := by decide +kernel
theorem dX3_restoreLatest_14 : decode cX3_restoreLatest 14 = .ok (.isub, 1) := by decide +kernel
theorem dX3_restoreLatest_15 : decode cX3_restoreLatest 15 = .ok (.putfield 16, 3) := by decide +kernel
theorem dX3_restoreLatest_18 : decode cX3_restoreLatest 18 = .ok (.aload_n 1, 1) := by decide +kernel
theorem dX3_restoreLatest_19 : decode cX3_restoreLatest 19 = .ok (.aload_n 0, 1) := by decide +kernel
theorem dX3_restoreLatest_20 : decode cX3_restoreLatest 20 = .ok (.getfield 11, 3) := by decide +kernel
theorem dX3_restoreLatest_23 : decode cX3_restoreLatest 23 = .ok (.aload_n 0, 1) := by decide +kernel
theorem dX3_restoreLatest_24 : decode cX3_restoreLatest 24 = .ok (.getfield 16, 3) := by decide +kernel
theorem dX3_restoreLatest_27 : decode cX3_restoreLatest 27 = .ok (.aaload, 1) := by decide +kernel
theorem dX3_restoreLatest_28 : decode cX3_restoreLatest 28 = .ok (.invokevirtual 23, 3) := by decide +kernel
theorem dX3_restoreLatest_31 : decode cX3_restoreLatest 31 = .ok (.return_, 1) := by decide +kernel
theorem dX4_init_0 : decode cX4_init 0 = .ok (.aload_n 0, 1) := by decide +kernel
theorem dX4_init_1 : decode cX4_init 1 = .ok (.invokespecial 1, 3) := by decide +kernel
theorem dX4_init_4 : decode cX4_init 4 = .ok (.aload_n 0, 1) := by decide +kernel
theorem dX4_init_5 : decode cX4_init 5 = .ok (.iload_n 1, 1) := by decide +kernel
theorem dX4_init_6 : decode cX4_init 6 = .ok (.putfield 7, 3) := by decide +kernel
theorem dX4_init_9 : decode cX4_init 9 = .ok (.return_, 1) := by decide +kernel
theorem dX4_copyFrom_0 : decode cX4_copyFrom 0 = .ok (.aload_n 0, 1) := by decide +kernel
theorem dX4_copyFrom_1 : decode cX4_copyFrom 1 = .ok (.aload_n 1, 1) := by decide +kernel
theorem dX4_copyFrom_2 : decode cX4_copyFrom 2 = .ok (.getfield 7, 3) := by decide +kernel
theorem dX4_copyFrom_5 : decode cX4_copyFrom 5 = .ok (.putfield 7, 3) := by decide +kernel
theorem dX4_copyFrom_8 : decode cX4_copyFrom 8 = .ok (.aload_n 0, 1) := by decide +kernel
theorem dX4_copyFrom_9 : decode cX4_copyFrom 9 = .ok (.aload_n 1, 1) := by decide +kernel
theorem dX4_copyFrom_10 : decode cX4_copyFrom 10 = .ok (.getfield 13, 3) := by decide +kernel
theorem dX4_copyFrom_13 : decode cX4_copyFrom 13 = .ok (.putfield 13, 3) := by decide +kernel
theorem dX4_copyFrom_16 : decode cX4_copyFrom 16 = .ok (.aload_n 0, 1) := by decide +kernel
theorem dX4_copyFrom_17 : decode cX4_copyFrom 17 = .ok (.aload_n 1, 1) := by decide +kernel
theorem dX4_copyFrom_18 : decode cX4_copyFrom 18 = .ok (.getfield 16, 3) := by decide +kernel
theorem dX4_copyFrom_21 : decode cX4_copyFrom 21 = .ok (.putfield 16, 3) := by decide +kernel
theorem dX4_copyFrom_24 : decode cX4_copyFrom 24 = .ok (.aload_n 0, 1) := by decide +kernel
theorem dX4_copyFrom_25 : decode cX4_copyFrom 25 = .ok (.aload_n 1, 1) := by decide +kernel
theorem dX4_copyFrom_26 : decode cX4_copyFrom 26 = .ok (.getfield 19, 3) := by decide +kernel
theorem dX4_copyFrom_29 : decode cX4_copyFrom 29 = .ok (.putfield 19, 3) := by decide +kernel
theorem dX4_copyFrom_32 : decode cX4_copyFrom 32 = .ok (.aload_n 0, 1) := by decide +kernel
theorem dX4_copyFrom_33 : decode cX4_copyFrom 33 = .ok (.aload_n 1, 1) := by decide +kernel
theorem dX4_copyFrom_34 : decode cX4_copyFrom 34 = .ok (.getfield 22, 3) := by decide +kernel
theorem dX4_copyFrom_37 : decode cX4_copyFrom 37 = .ok (.putfield 22, 3) := by decide +kernel
theorem dX4_copyFrom_40 : decode cX4_copyFrom 40 = .ok (.aload_n 0, 1) := by decide +kernel
theorem dX4_copyFrom_41 : decode cX4_copyFrom 41 = .ok (.aload_n 1, 1) := by decide +kernel
theorem dX4_copyFrom_42 : decode cX4_copyFrom 42 = .ok (.getfield 25, 3) := by decide +kernel
theorem dX4_copyFrom_45 : decode cX4_copyFrom 45 = .ok (.putfield 25, 3) := by decide +kernel
theorem dX4_copyFrom_48 : decode cX4_copyFrom 48 = .ok (.return_, 1) := by decide +kernel
theorem dX4_isBetterThan_0 : decode cX4_isBetterThan 0 = .ok (.aload_n 0, 1) := by decide +kernel
theorem dX4_isBetterThan_1 : decode cX4_isBetterThan 1 = .ok (.getfield 13, 3) := by decide +kernel
theorem dX4_isBetterThan_4 : decode cX4_isBetterThan 4 = .ok (.aload_n 1, 1) := by decide +kernel
theorem dX4_isBetterThan_5 : decode cX4_isBetterThan 5 = .ok (.getfield 13, 3) := by decide +kernel
theorem dX4_isBetterThan_8 : decode cX4_isBetterThan 8 = .ok (.if_icmp .gt 25, 3) := by decide +kernel
theorem dX4_isBetterThan_11 : decode cX4_isBetterThan 11 = .ok (.aload_n 0, 1) := by decide +kernel
theorem dX4_isBetterThan_12 : decode cX4_isBetterThan 12 = .ok (.getfield 13, 3) := by decide +kernel
theorem dX4_isBetterThan_15 : decode cX4_isBetterThan 15 = .ok (.aload_n 1, 1) := by decide +kernel
theorem dX4_isBetterThan_16 : decode cX4_isBetterThan 16 = .ok (.getfield 13, 3) := by decide +kernel
theorem dX4_isBetterThan_19 : decode cX4_isBetterThan 19 = .ok (.if_icmp .ne 18, 3) := by decide +kernel
theorem dX4_isBetterThan_22 : decode cX4_isBetterThan 22 = .ok (.aload_n 0, 1) := by decide +kernel
theorem dX4_isBetterThan_23 : decode cX4_isBetterThan 23 = .ok (.getfield 19, 3) := by decide +kernel
theorem dX4_isBetterThan_26 : decode cX4_isBetterThan 26 = .ok (.aload_n 1, 1) := by decide +kernel
theorem dX4_isBetterThan_27 : decode cX4_isBetterThan 27 = .ok (.getfield 19, 3) := by decide +kernel
theorem dX4_isBetterThan_30 : decode cX4_isBetterThan 30 = .ok (.if_icmp .le 7, 3) := by decide +kernel
theorem dX4_isBetterThan_33 : decode cX4_isBetterThan 33 = .ok (.iconst 1, 1) := by decide +kernel
theorem dX4_isBetterThan_34 : decode cX4_isBetterThan 34 = .ok (.goto 4, 3) := by decide +kernel
theorem dX4_isBetterThan_37 : decode cX4_isBetterThan 37 = .ok (.iconst 0, 1) := by decide +kernel
theorem dX4_isBetterThan_38 : decode cX4_isBetterThan 38 = .ok (.ireturn, 1) := by decide +kernel
theorem dX5_init_0 : decode cX5_init 0 = .ok (.aload_n 0, 1) := by decide +kernel
theorem dX5_init_1 : decode cX5_init 1 = .ok (.invokespecial 3, 3) := by decide +kernel
theorem dX5_init_4 : decode cX5_init 4 = .ok (.aload_n 0, 1) := by decide +kernel
theorem dX5_init_5 : decode cX5_init 5 = .ok (.bipush 60, 2) := by decide +kernel
theorem dX5_init_7 : decode cX5_init 7 = .ok (.newarray .int, 2) := by decide +kernel
theorem dX5_init_9 : decode cX5_init 9 = .ok (.putfield 11, 3) := by decide +kernel
theorem dX5_init_12 : decode cX5_init 12 = .ok (.return_, 1) := by decide +kernel
theorem dX5_isFull_0 : decode cX5_isFull 0 = .ok (.aload_n 0, 1) := by decide +kernel
theorem dX5_isFull_1 : decode cX5_isFull 1 = .ok (.getfield 15, 3) := by decide +kernel
theorem dX5_isFull_4 : decode cX5_isFull 4 = .ok (.bipush 60, 2) := by decide +kernel
theorem dX5_isFull_6 : decode cX5_isFull 6 = .ok (.if_icmp .lt 7, 3) := by decide +kernel
theorem dX5_isFull_9 : decode cX5_isFull 9 = .ok (.iconst 1, 1) := by decide +kernel
theorem dX5_isFull_10 : decode cX5_isFull 10 = .ok (.goto 4, 3) := by decide +kernel
theorem dX5_isFull_13 : decode cX5_isFull 13 = .ok (.iconst 0, 1) := by decide +kernel
theorem dX5_isFull_14 : decode cX5_isFull 14 = .ok (.ireturn, 1) := by decide +kernel
theorem dX5_add_0 : decode cX5_add 0 = .ok (.aload_n 0, 1) := by decide +kernel
theorem dX5_add_1 : decode cX5_add 1 = .ok (.getfield 15, 3) := by decide +kernel
theorem dX5_add_4 : decode cX5_add 4 = .ok (.bipush 60, 2) := by decide +kernel
theorem dX5_add_6 : decode cX5_add 6 = .ok (.if_icmp .ge 23, 3) := by decide +kernel
theorem dX5_add_9 : decode cX5_add 9 = .ok (.aload_n 0, 1) := by decide +kernel
theorem dX5_add_10 : decode cX5_add 10 = .ok (.getfield 11, 3) := by decide +kernel
theorem dX5_add_13 : decode cX5_add 13 = .ok (.aload_n 0, 1) := by decide +kernel
theorem dX5_add_14 : decode cX5_add 14 = .ok (.getfield 15, 3) := by decide +kernel
theorem dX5_add_17 : decode cX5_add 17 = .ok (.iload_n 1, 1) := by decide +kernel
theorem dX5_add_18 : decode cX5_add 18 = .ok (.iastore, 1) := by decide +kernel
theorem dX5_add_19 : decode cX5_add 19 = .ok (.aload_n 0, 1) := by decide +kernel
theorem dX5_add_20 : decode cX5_add 20 = .ok (.dup, 1) := by decide +kernel
theorem dX5_add_21 : decode cX5_add 21 = .ok (.getfield 15, 3) := by decide +kernel
theorem dX5_add_24 : decode cX5_add 24 = .ok (.iconst 1, 1) := by decide +kernel
theorem dX5_add_25 : decode cX5_add 25 = .ok (.iadd, 1) := by decide +kernel
theorem dX5_add_26 : decode cX5_add 26 = .ok (.putfield 15, 3) := by decide +kernel
theorem dX5_add_29 : decode cX5_add 29 = .ok (.return_, 1) := by decide +kernel
theorem dX5_codeAt_0 : decode cX5_codeAt 0 = .ok (.iload_n 1, 1) := by decide +kernel
theorem dX5_codeAt_1 : decode cX5_codeAt 1 = .ok (.ifCond .lt 20, 3) := by decide +kernel
theorem dX5_codeAt_4 : decode cX5_codeAt 4 = .ok (.iload_n 1, 1) := by decide +kernel
theorem dX5_codeAt_5 : decode cX5_codeAt 5 = .ok (.aload_n 0, 1) := by decide +kernel
theorem dX5_codeAt_6 : decode cX5_codeAt 6 = .ok (.getfield 15, 3) := by decide +kernel
theorem dX5_codeAt_9 : decode cX5_codeAt 9 = .ok (.if_icmp .ge 12, 3) := by decide +kernel
theorem dX5_codeAt_12 : decode cX5_codeAt 12 = .ok (.aload_n 0, 1) := by decide +kernel
theorem dX5_codeAt_13 : decode cX5_codeAt 13 = .ok (.getfield 11, 3) := by decide +kernel
theorem dX5_codeAt_16 : decode cX5_codeAt 16 = .ok (.iload_n 1, 1) := by decide +kernel
theorem dX5_codeAt_17 : decode cX5_codeAt 17 = .ok (.iaload, 1) := by decide +kernel
theorem dX5_codeAt_18 : decode cX5_codeAt 18 = .ok (.goto 4, 3) := by decide +kernel
theorem dX5_codeAt_21 : decode cX5_codeAt 21 = .ok (.iconst (-1), 1) := by decide +kernel
theorem dX5_codeAt_22 : decode cX5_codeAt 22 = .ok (.ireturn, 1) := by decide +kernel
theorem dX5_errorIndex_0 : decode cX5_errorIndex 0 = .ok (.iconst 0, 1) := by decide +kernel
theorem dX5_errorIndex_1 : decode cX5_errorIndex 1 = .ok (.istore_n 1, 1) := by decide +kernel
theorem dX5_errorIndex_2 : decode cX5_errorIndex 2 = .ok (.iconst 0, 1) := by decide +kernel
theorem dX5_errorIndex_3 : decode cX5_errorIndex 3 = .ok (.istore_n 2, 1) := by decide +kernel
theorem dX5_errorIndex_4 : decode cX5_errorIndex 4 = .ok (.iload_n 2, 1) := by decide +kernel
theorem dX5_errorIndex_5 : decode cX5_errorIndex 5 = .ok (.aload_n 0, 1) := by decide +kernel
theorem dX5_errorIndex_6 : decode cX5_errorIndex 6 = .ok (.getfield 15, 3) := by decide +kernel
theorem dX5_errorIndex_9 : decode cX5_errorIndex 9 = .ok (.if_icmp .ge 27, 3) := by decide +kernel
theorem dX5_errorIndex_12 : decode cX5_errorIndex 12 = .ok (.iload_n 1, 1) := by decide +kernel
theorem dX5_errorIndex_13 : decode cX5_errorIndex 13 = .ok (.aload_n 0, 1) := by decide +kernel
theorem dX5_errorIndex_14 : decode cX5_errorIndex 14 = .ok (.getfield 11, 3) := by decide +kernel
theorem dX5_errorIndex_17 : decode cX5_errorIndex 17 = .ok (.iload_n 2, 1) := by decide +kernel
theorem dX5_errorIndex_18 : decode cX5_errorIndex 18 = .ok (.iaload, 1) := by decide +kernel
theorem dX5_errorIndex_19 : decode cX5_errorIndex 19 = .ok (.invokestatic 19, 3) := by decide +kernel
theorem dX5_errorIndex_22 : decode cX5_errorIndex 22 = .ok (.istore_n 1, 1) := by decide +kernel
theorem dX5_errorIndex_23 : decode cX5_errorIndex 23 = .ok (.iload_n 1, 1) := by decide +kernel
theorem dX5_errorIndex_24 : decode cX5_errorIndex 24 = .ok (.iconst (-1), 1) := by decide +kernel
theorem dX5_errorIndex_25 : decode cX5_errorIndex 25 = .ok (.if_icmp .ne 5, 3) := by decide +kernel
theorem dX5_errorIndex_28 : decode cX5_errorIndex 28 = .ok (.iload_n 2, 1) := by decide +kernel
theorem dX5_errorIndex_29 : decode cX5_errorIndex 29 = .ok (.ireturn, 1) := by decide +kernel
theorem dX5_errorIndex_30 : decode cX5_errorIndex 30 = .ok (.iinc 2 1, 3) := by decide +kernel
theorem dX5_errorIndex_33 : decode cX5_errorIndex 33 = .ok (.goto (-29), 3) := by decide +kernel
theorem dX5_errorIndex_36 : decode cX5_errorIndex 36 = .ok (.aload_n 0, 1) := by decide +kernel
theorem dX5_errorIndex_37 : decode cX5_errorIndex 37 = .ok (.getfield 15, 3) := by decide +kernel
theorem dX5_errorIndex_40 : decode cX5_errorIndex 40 = .ok (.ireturn, 1) := by decide +kernel
theorem dX5_isTurns_0 : decode cX5_isTurns 0 = .ok (.iconst 0, 1) := by decide +kernel
theorem dX5_isTurns_1 : decode cX5_isTurns 1 = .ok (.istore_n 1, 1) := by decide +kernel
theorem dX5_isTurns_2 : decode cX5_isTurns 2 = .ok (.iconst 0, 1) := by decide +kernel
theorem dX5_isTurns_3 : decode cX5_isTurns 3 = .ok (.istore_n 2, 1) := by decide +kernel
theorem dX5_isTurns_4 : decode cX5_isTurns 4 = .ok (.iload_n 2, 1) := by decide +kernel
theorem dX5_isTurns_5 : decode cX5_isTurns 5 = .ok (.aload_n 0, 1) := by decide +kernel
theorem dX5_isTurns_6 : decode cX5_isTurns 6 = .ok (.getfield 15, 3) := by decide +kernel
theorem dX5_isTurns_9 : decode cX5_isTurns 9 = .ok (.if_icmp .ge 20, 3) := by decide +kernel
theorem dX5_isTurns_12 : decode cX5_isTurns 12 = .ok (.iload_n 1, 1) := by decide +kernel
theorem dX5_isTurns_13 : decode cX5_isTurns 13 = .ok (.aload_n 0, 1) := by decide +kernel
theorem dX5_isTurns_14 : decode cX5_isTurns 14 = .ok (.getfield 11, 3) := by decide +kernel
theorem dX5_isTurns_17 : decode cX5_isTurns 17 = .ok (.iload_n 2, 1) := by decide +kernel
theorem dX5_isTurns_18 : decode cX5_isTurns 18 = .ok (.iaload, 1) := by decide +kernel
theorem dX5_isTurns_19 : decode cX5_isTurns 19 = .ok (.invokestatic 19, 3) := by decide +kernel
theorem dX5_isTurns_22 : decode cX5_isTurns 22 = .ok (.istore_n 1, 1) := by decide +kernel
theorem dX5_isTurns_23 : decode cX5_isTurns 23 = .ok (.iinc 2 1, 3) := by decide +kernel
theorem dX5_isTurns_26 : decode cX5_isTurns 26 = .ok (.goto (-22), 3) := by decide +kernel
theorem dX5_isTurns_29 : decode cX5_isTurns 29 = .ok (.iload_n 1, 1) := by decide +kernel
theorem dX5_isTurns_30 : decode cX5_isTurns 30 = .ok (.bipush 9, 2) := by decide +kernel
theorem dX5_isTurns_32 : decode cX5_isTurns 32 = .ok (.if_icmp .eq 9, 3) := by decide +kernel
theorem dX5_isTurns_35 : decode cX5_isTurns 35 = .ok (.iload_n 1, 1) := by decide +kernel
theorem dX5_isTurns_36 : decode cX5_isTurns 36 = .ok (.bipush 8, 2) := by decide +kernel
theorem dX5_isTurns_38 : decode cX5_isTurns 38 = .ok (.if_icmp .ne 7, 3) := by decide +kernel
theorem dX5_isTurns_41 : decode cX5_isTurns 41 = .ok (.iconst 1, 1) := by decide +kernel
theorem dX5_isTurns_42 : decode cX5_isTurns 42 = .ok (.goto 4, 3) := by decide +kernel
theorem dX5_isTurns_45 : decode cX5_isTurns 45 = .ok (.iconst 0, 1) := by decide +kernel
theorem dX5_isTurns_46 : decode cX5_isTurns 46 = .ok (.ireturn, 1) := by decide +kernel
theorem dX5_stateAfter_0 : decode cX5_stateAfter 0 = .ok (.iload_n 0, 1) := by decide +kernel
theorem dX5_stateAfter_1 : decode cX5_stateAfter 1 = .ok (.tableswitch 193 0 9 #[55, 60, 73, 85, 99, 112, 131, 151, 171, 188], 55) := by decide +kernel
theorem dX5_stateAfter_56 : decode cX5_stateAfter 56 = .ok (.iload_n 1, 1) := by decide +kernel
theorem dX5_stateAfter_57 : decode cX5_stateAfter 57 = .ok (.invokestatic 23, 3) := by decide +kernel
theorem dX5_stateAfter_60 : decode cX5_stateAfter 60 = .ok (.ireturn, 1) := by decide +kernel
theorem dX5_stateAfter_61 : decode cX5_stateAfter 61 = .ok (.iload_n 1, 1) := by decide +kernel
theorem dX5_stateAfter_62 : decode cX5_stateAfter 62 = .ok (.invokestatic 27, 3) := by decide +kernel
theorem dX5_stateAfter_65 : decode cX5_stateAfter 65 = .ok (.ifCond .eq 7, 3) := by decide +kernel
theorem dX5_stateAfter_68 : decode cX5_stateAfter 68 = .ok (.iconst 2, 1) := by decide +kernel
theorem dX5_stateAfter_69 : decode cX5_stateAfter 69 = .ok (.goto 4, 3) := by decide +kernel
theorem dX5_stateAfter_72 : decode cX5_stateAfter 72 = .ok (.iconst (-1), 1) := by decide +kernel
theorem dX5_stateAfter_73 : decode cX5_stateAfter 73 = .ok (.ireturn, 1) := by decide +kernel
theorem dX5_stateAfter_74 : decode cX5_stateAfter 74 = .ok (.iload_n 1, 1) := by decide +kernel
theorem dX5_stateAfter_75 : decode cX5_stateAfter 75 = .ok (.bipush 61, 2) := by decide +kernel
theorem dX5_stateAfter_77 : decode cX5_stateAfter 77 = .ok (.if_icmp .ne 7, 3) := by decide +kernel
theorem dX5_stateAfter_80 : decode cX5_stateAfter 80 = .ok (.iconst 3, 1) := by decide +kernel
theorem dX5_stateAfter_81 : decode cX5_stateAfter 81 = .ok (.goto 4, 3) := by decide +kernel
theorem dX5_stateAfter_84 : decode cX5_stateAfter 84 = .ok (.iconst (-1), 1) := by decide +kernel
theorem dX5_stateAfter_85 : decode cX5_stateAfter 85 = .ok (.ireturn, 1) := by decide +kernel
theorem dX5_stateAfter_86 : decode cX5_stateAfter 86 = .ok (.iload_n 1, 1) := by decide +kernel
theorem dX5_stateAfter_87 : decode cX5_stateAfter 87 = .ok (.invokestatic 31, 3) := by decide +kernel
theorem dX5_stateAfter_90 : decode cX5_stateAfter 90 = .ok (.ifCond .eq 8, 3) := by decide +kernel
theorem dX5_stateAfter_93 : decode cX5_stateAfter 93 = .ok (.bipush 9, 2) := by decide +kernel
theorem dX5_stateAfter_95 : decode cX5_stateAfter 95 = .ok (.goto 4, 3) := by decide +kernel
theorem dX5_stateAfter_98 : decode cX5_stateAfter 98 = .ok (.iconst (-1), 1) := by decide +kernel
theorem dX5_stateAfter_99 : decode cX5_stateAfter 99 = .ok (.ireturn, 1) := by decide +kernel
theorem dX5_stateAfter_100 : decode cX5_stateAfter 100 = .ok (.iload_n 1, 1) := by decide +kernel
theorem dX5_stateAfter_101 : decode cX5_stateAfter 101 = .ok (.invokestatic 27, 3) := by decide +kernel
theorem dX5_stateAfter_104 : decode cX5_stateAfter 104 = .ok (.ifCond .eq 7, 3) := by decide +kernel
theorem dX5_stateAfter_107 : decode cX5_stateAfter 107 = .ok (.iconst 5, 1) := by decide +kernel
theorem dX5_stateAfter_108 : decode cX5_stateAfter 108 = .ok (.goto 4, 3) := by decide +kernel
theorem dX5_stateAfter_111 : decode cX5_stateAfter 111 = .ok (.iconst (-1), 1) := by decide +kernel
theorem dX5_stateAfter_112 : decode cX5_stateAfter 112 = .ok (.ireturn, 1) := by decide +kernel
theorem dX5_stateAfter_113 : decode cX5_stateAfter 113 = .ok (.iload_n 1, 1) := by decide +kernel
theorem dX5_stateAfter_114 : decode cX5_stateAfter 114 = .ok (.bipush 43, 2) := by decide +kernel
theorem dX5_stateAfter_116 : decode cX5_stateAfter 116 = .ok (.if_icmp .eq 9, 3) := by decide +kernel
theorem dX5_stateAfter_119 : decode cX5_stateAfter 119 = .ok (.iload_n 1, 1) := by decide +kernel
theorem dX5_stateAfter_120 : decode cX5_stateAfter 120 = .ok (.bipush 45, 2) := by decide +kernel
theorem dX5_stateAfter_122 : decode cX5_stateAfter 122 = .ok (.if_icmp .ne 8, 3) := by decide +kernel
theorem dX5_stateAfter_125 : decode cX5_stateAfter 125 = .ok (.bipush 6, 2) := by decide +kernel
theorem dX5_stateAfter_127 : decode cX5_stateAfter 127 = .ok (.goto 4, 3) := by decide +kernel
theorem dX5_stateAfter_130 : decode cX5_stateAfter 130 = .ok (.iconst (-1), 1) := by decide +kernel
theorem dX5_stateAfter_131 : decode cX5_stateAfter 131 = .ok (.ireturn, 1) := by decide +kernel
theorem dX5_stateAfter_132 : decode cX5_stateAfter 132 = .ok (.iload_n 1, 1) := by decide +kernel
theorem dX5_stateAfter_133 : decode cX5_stateAfter 133 = .ok (.invokestatic 31, 3) := by decide +kernel
theorem dX5_stateAfter_136 : decode cX5_stateAfter 136 = .ok (.ifCond .eq 14, 3) := by decide +kernel
theorem dX5_stateAfter_139 : decode cX5_stateAfter 139 = .ok (.iload_n 1, 1) := by decide +kernel
theorem dX5_stateAfter_140 : decode cX5_stateAfter 140 = .ok (.bipush 48, 2) := by decide +kernel
theorem dX5_stateAfter_142 : decode cX5_stateAfter 142 = .ok (.if_icmp .eq 8, 3) := by decide +kernel
theorem dX5_stateAfter_145 : decode cX5_stateAfter 145 = .ok (.bipush 9, 2) := by decide +kernel
theorem dX5_stateAfter_147 : decode cX5_stateAfter 147 = .ok (.goto 4, 3) := by decide +kernel
theorem dX5_stateAfter_150 : decode cX5_stateAfter 150 = .ok (.iconst (-1), 1) := by decide +kernel
theorem dX5_stateAfter_151 : decode cX5_stateAfter 151 = .ok (.ireturn, 1) := by decide +kernel
theorem dX5_stateAfter_152 : decode cX5_stateAfter 152 = .ok (.iload_n 1, 1) := by decide +kernel
theorem dX5_stateAfter_153 : decode cX5_stateAfter 153 = .ok (.invokestatic 31, 3) := by decide +kernel
theorem dX5_stateAfter_156 : decode cX5_stateAfter 156 = .ok (.ifCond .eq 14, 3) := by decide +kernel
theorem dX5_stateAfter_159 : decode cX5_stateAfter 159 = .ok (.iload_n 1, 1) := by decide +kernel
theorem dX5_stateAfter_160 : decode cX5_stateAfter 160 = .ok (.bipush 48, 2) := by decide +kernel
theorem dX5_stateAfter_162 : decode cX5_stateAfter 162 = .ok (.if_icmp .eq 8, 3) := by decide +kernel
theorem dX5_stateAfter_165 : decode cX5_stateAfter 165 = .ok (.bipush 8, 2) := by decide +kernel
theorem dX5_stateAfter_167 : decode cX5_stateAfter 167 = .ok (.goto 4, 3) := by decide +kernel
theorem dX5_stateAfter_170 : decode cX5_stateAfter 170 = .ok (.iconst (-1), 1) := by decide +kernel
theorem dX5_stateAfter_171 : decode cX5_stateAfter 171 = .ok (.ireturn, 1) := by decide +kernel
theorem dX5_stateAfter_172 : decode cX5_stateAfter 172 = .ok (.iload_n 1, 1) := by decide +kernel
theorem dX5_stateAfter_173 : decode cX5_stateAfter 173 = .ok (.invokestatic 31, 3) := by decide +kernel
theorem dX5_stateAfter_176 : decode cX5_stateAfter 176 = .ok (.ifCond .eq 8, 3) := by decide +kernel
theorem dX5_stateAfter_179 : decode cX5_stateAfter 179 = .ok (.bipush 9, 2) := by decide +kernel
theorem dX5_stateAfter_181 : decode cX5_stateAfter 181 = .ok (.goto 7, 3) := by decide +kernel
theorem dX5_stateAfter_184 : decode cX5_stateAfter 184 = .ok (.iload_n 1, 1) := by decide +kernel
theorem dX5_stateAfter_185 : decode cX5_stateAfter 185 = .ok (.invokestatic 34, 3) := by decide +kernel
theorem dX5_stateAfter_188 : decode cX5_stateAfter 188 = .ok (.ireturn, 1) := by decide +kernel
theorem dX5_stateAfter_189 : decode cX5_stateAfter 189 = .ok (.iload_n 1, 1) := by decide +kernel
theorem dX5_stateAfter_190 : decode cX5_stateAfter 190 = .ok (.invokestatic 34, 3) := by decide +kernel
theorem dX5_stateAfter_193 : decode cX5_stateAfter 193 = .ok (.ireturn, 1) := by decide +kernel
theorem dX5_stateAfter_194 : decode cX5_stateAfter 194 = .ok (.iconst (-1), 1) := by decide +kernel
theorem dX5_stateAfter_195 : decode cX5_stateAfter 195 = .ok (.ireturn, 1) := by decide +kernel
theorem dX5_stateAfterStart_0 : decode cX5_stateAfterStart 0 = .ok (.iload_n 0, 1) := by decide +kernel
theorem dX5_stateAfterStart_1 : decode cX5_stateAfterStart 1 = .ok (.lookupswitch 42 #[(99, 35), (109, 37), (116, 39)], 35) := by decide +kernel
theorem dX5_stateAfterStart_36 : decode cX5_stateAfterStart 36 = .ok (.iconst 1, 1) := by decide +kernel
theorem dX5_stateAfterStart_37 : decode cX5_stateAfterStart 37 = .ok (.ireturn, 1) := by decide +kernel
theorem dX5_stateAfterStart_38 : decode cX5_stateAfterStart 38 = .ok (.iconst 4, 1) := by decide +kernel
theorem dX5_stateAfterStart_39 : decode cX5_stateAfterStart 39 = .ok (.ireturn, 1) := by decide +kernel
theorem dX5_stateAfterStart_40 : decode cX5_stateAfterStart 40 = .ok (.bipush 7, 2) := by decide +kernel
theorem dX5_stateAfterStart_42 : decode cX5_stateAfterStart 42 = .ok (.ireturn, 1) := by decide +kernel
theorem dX5_stateAfterStart_43 : decode cX5_stateAfterStart 43 = .ok (.iconst (-1), 1) := by decide +kernel
theorem dX5_stateAfterStart_44 : decode cX5_stateAfterStart 44 = .ok (.ireturn, 1) := by decide +kernel
theorem dX5_stateAfterOrder_0 : decode cX5_stateAfterOrder 0 = .ok (.iload_n 0, 1) := by decide +kernel
theorem dX5_stateAfterOrder_1 : decode cX5_stateAfterOrder 1 = .ok (.bipush 59, 2) := by decide +kernel
theorem dX5_stateAfterOrder_3 : decode cX5_stateAfterOrder 3 = .ok (.if_icmp .ne 7, 3) := by decide +kernel
theorem dX5_stateAfterOrder_6 : decode cX5_stateAfterOrder 6 = .ok (.iconst 0, 1) := by decide +kernel
theorem dX5_stateAfterOrder_7 : decode cX5_stateAfterOrder 7 = .ok (.goto 4, 3) := by decide +kernel
theorem dX5_stateAfterOrder_10 : decode cX5_stateAfterOrder 10 = .ok (.iconst (-1), 1) := by decide +kernel
theorem dX5_stateAfterOrder_11 : decode cX5_stateAfterOrder 11 = .ok (.ireturn, 1) := by decide +kernel
theorem dX5_isPlayer_0 : decode cX5_isPlayer 0 = .ok (.iload_n 0, 1) := by decide +kernel
theorem dX5_isPlayer_1 : decode cX5_isPlayer 1 = .ok (.bipush 48, 2) := by decide +kernel
theorem dX5_isPlayer_3 : decode cX5_isPlayer 3 = .ok (.if_icmp .lt 13, 3) := by decide +kernel
theorem dX5_isPlayer_6 : decode cX5_isPlayer 6 = .ok (.iload_n 0, 1) := by decide +kernel
theorem dX5_isPlayer_7 : decode cX5_isPlayer 7 = .ok (.bipush 52, 2) := by decide +kernel
theorem dX5_isPlayer_9 : decode cX5_isPlayer 9 = .ok (.if_icmp .ge 7, 3) := by decide +kernel
theorem dX5_isPlayer_12 : decode cX5_isPlayer 12 = .ok (.iconst 1, 1) := by decide +kernel
theorem dX5_isPlayer_13 : decode cX5_isPlayer 13 = .ok (.goto 4, 3) := by decide +kernel
theorem dX5_isPlayer_16 : decode cX5_isPlayer 16 = .ok (.iconst 0, 1) := by decide +kernel
theorem dX5_isPlayer_17 : decode cX5_isPlayer 17 = .ok (.ireturn, 1) := by decide +kernel
theorem dX5_isDigit_0 : decode cX5_isDigit 0 = .ok (.iload_n 0, 1) := by decide +kernel
theorem dX5_isDigit_1 : decode cX5_isDigit 1 = .ok (.bipush 48, 2) := by decide +kernel
theorem dX5_isDigit_3 : decode cX5_isDigit 3 = .ok (.if_icmp .lt 13, 3) := by decide +kernel
theorem dX5_isDigit_6 : decode cX5_isDigit 6 = .ok (.iload_n 0, 1) := by decide +kernel
theorem dX5_isDigit_7 : decode cX5_isDigit 7 = .ok (.bipush 57, 2) := by decide +kernel
theorem dX5_isDigit_9 : decode cX5_isDigit 9 = .ok (.if_icmp .gt 7, 3) := by decide +kernel
theorem dX5_isDigit_12 : decode cX5_isDigit 12 = .ok (.iconst 1, 1) := by decide +kernel
theorem dX5_isDigit_13 : decode cX5_isDigit 13 = .ok (.goto 4, 3) := by decide +kernel
theorem dX5_isDigit_16 : decode cX5_isDigit 16 = .ok (.iconst 0, 1) := by decide +kernel
theorem dX5_isDigit_17 : decode cX5_isDigit 17 = .ok (.ireturn, 1) := by decide +kernel
theorem dX5_digitAt_0 : decode cX5_digitAt 0 = .ok (.aload_n 0, 1) := by decide +kernel
theorem dX5_digitAt_1 : decode cX5_digitAt 1 = .ok (.iload_n 1, 1) := by decide +kernel
theorem dX5_digitAt_2 : decode cX5_digitAt 2 = .ok (.invokevirtual 37, 3) := by decide +kernel
theorem dX5_digitAt_5 : decode cX5_digitAt 5 = .ok (.bipush 48, 2) := by decide +kernel
theorem dX5_digitAt_7 : decode cX5_digitAt 7 = .ok (.isub, 1) := by decide +kernel
theorem dX5_digitAt_8 : decode cX5_digitAt 8 = .ok (.ireturn, 1) := by decide +kernel
theorem dX5_stepsAt_0 : decode cX5_stepsAt 0 = .ok (.aload_n 0, 1) := by decide +kernel
theorem dX5_stepsAt_1 : decode cX5_stepsAt 1 = .ok (.iload_n 1, 1) := by decide +kernel
theorem dX5_stepsAt_2 : decode cX5_stepsAt 2 = .ok (.iconst 1, 1) := by decide +kernel
theorem dX5_stepsAt_3 : decode cX5_stepsAt 3 = .ok (.iadd, 1) := by decide +kernel
theorem dX5_stepsAt_4 : decode cX5_stepsAt 4 = .ok (.invokevirtual 40, 3) := by decide +kernel
theorem dX5_stepsAt_7 : decode cX5_stepsAt 7 = .ok (.istore_n 2, 1) := by decide +kernel
theorem dX5_stepsAt_8 : decode cX5_stepsAt 8 = .ok (.aload_n 0, 1) := by decide +kernel
theorem dX5_stepsAt_9 : decode cX5_stepsAt 9 = .ok (.iload_n 1, 1) := by decide +kernel
theorem dX5_stepsAt_10 : decode cX5_stepsAt 10 = .ok (.invokevirtual 37, 3) := by decide +kernel
theorem dX5_stepsAt_13 : decode cX5_stepsAt 13 = .ok (.bipush 45, 2) := by decide +kernel
theorem dX5_stepsAt_15 : decode cX5_stepsAt 15 = .ok (.if_icmp .ne 8, 3) := by decide +kernel
theorem dX5_stepsAt_18 : decode cX5_stepsAt 18 = .ok (.iload_n 2, 1) := by decide +kernel
theorem dX5_stepsAt_19 : decode cX5_stepsAt 19 = .ok (.ineg, 1) := by decide +kernel
theorem dX5_stepsAt_20 : decode cX5_stepsAt 20 = .ok (.goto 4, 3) := by decide +kernel
theorem dX5_stepsAt_23 : decode cX5_stepsAt 23 = .ok (.iload_n 2, 1) := by decide +kernel
theorem dX5_stepsAt_24 : decode cX5_stepsAt 24 = .ok (.ireturn, 1) := by decide +kernel
theorem dX5_numberAt_0 : decode cX5_numberAt 0 = .ok (.aload_n 0, 1) := by decide +kernel
theorem dX5_numberAt_1 : decode cX5_numberAt 1 = .ok (.iload_n 1, 1) := by decide +kernel
theorem dX5_numberAt_2 : decode cX5_numberAt 2 = .ok (.invokevirtual 40, 3) := by decide +kernel
theorem dX5_numberAt_5 : decode cX5_numberAt 5 = .ok (.istore_n 2, 1) := by decide +kernel
theorem dX5_numberAt_6 : decode cX5_numberAt 6 = .ok (.aload_n 0, 1) := by decide +kernel
theorem dX5_numberAt_7 : decode cX5_numberAt 7 = .ok (.iload_n 1, 1) := by decide +kernel
theorem dX5_numberAt_8 : decode cX5_numberAt 8 = .ok (.iconst 1, 1) := by decide +kernel
theorem dX5_numberAt_9 : decode cX5_numberAt 9 = .ok (.iadd, 1) := by decide +kernel
theorem dX5_numberAt_10 : decode cX5_numberAt 10 = .ok (.invokevirtual 37, 3) := by decide +kernel
theorem dX5_numberAt_13 : decode cX5_numberAt 13 = .ok (.invokestatic 31, 3) := by decide +kernel
theorem dX5_numberAt_16 : decode cX5_numberAt 16 = .ok (.ifCond .eq 18, 3) := by decide +kernel
theorem dX5_numberAt_19 : decode cX5_numberAt 19 = .ok (.bipush 10, 2) := by decide +kernel
theorem dX5_numberAt_21 : decode cX5_numberAt 21 = .ok (.iload_n 2, 1) := by decide +kernel
theorem dX5_numberAt_22 : decode cX5_numberAt 22 = .ok (.imul, 1) := by decide +kernel
theorem dX5_numberAt_23 : decode cX5_numberAt 23 = .ok (.aload_n 0, 1) := by decide +kernel
theorem dX5_numberAt_24 : decode cX5_numberAt 24 = .ok (.iload_n 1, 1) := by decide +kernel
theorem dX5_numberAt_25 : decode cX5_numberAt 25 = .ok (.iconst 1, 1) := by decide +kernel
theorem dX5_numberAt_26 : decode cX5_numberAt 26 = .ok (.iadd, 1) := by decide +kernel
theorem dX5_numberAt_27 : decode cX5_numberAt 27 = .ok (.invokevirtual 40, 3) := by decide +kernel
theorem dX5_numberAt_30 : decode cX5_numberAt 30 = .ok (.iadd, 1) := by decide +kernel
theorem dX5_numberAt_31 : decode cX5_numberAt 31 = .ok (.goto 4, 3) := by decide +kernel
theorem dX5_numberAt_34 : decode cX5_numberAt 34 = .ok (.iload_n 2, 1) := by decide +kernel
theorem dX5_numberAt_35 : decode cX5_numberAt 35 = .ok (.ireturn, 1) := by decide +kernel
theorem dX5_startsOrder_0 : decode cX5_startsOrder 0 = .ok (.iload_n 1, 1) := by decide +kernel
theorem dX5_startsOrder_1 : decode cX5_startsOrder 1 = .ok (.ifCond .eq 15, 3) := by decide +kernel
theorem dX5_startsOrder_4 : decode cX5_startsOrder 4 = .ok (.aload_n 0, 1) := by decide +kernel
theorem dX5_startsOrder_5 : decode cX5_startsOrder 5 = .ok (.iload_n 1, 1) := by decide +kernel
theorem dX5_startsOrder_6 : decode cX5_startsOrder 6 = .ok (.iconst 1, 1) := by decide +kernel
theorem dX5_startsOrder_7 : decode cX5_startsOrder 7 = .ok (.isub, 1) := by decide +kernel
theorem dX5_startsOrder_8 : decode cX5_startsOrder 8 = .ok (.invokevirtual 37, 3) := by decide +kernel
theorem dX5_startsOrder_11 : decode cX5_startsOrder 11 = .ok (.bipush 59, 2) := by decide +kernel
theorem dX5_startsOrder_13 : decode cX5_startsOrder 13 = .ok (.if_icmp .ne 7, 3) := by decide +kernel
theorem dX5_startsOrder_16 : decode cX5_startsOrder 16 = .ok (.iconst 1, 1) := by decide +kernel
theorem dX5_startsOrder_17 : decode cX5_startsOrder 17 = .ok (.goto 4, 3) := by decide +kernel
theorem dX5_startsOrder_20 : decode cX5_startsOrder 20 = .ok (.iconst 0, 1) := by decide +kernel
theorem dX5_startsOrder_21 : decode cX5_startsOrder 21 = .ok (.ireturn, 1) := by decide +kernel
theorem dX6_init_0 : decode cX6_init 0 = .ok (.aload_n 0, 1) := by decide +kernel
theorem dX6_init_1 : decode cX6_init 1 = .ok (.invokespecial 1, 3) := by decide +kernel
theorem dX6_init_4 : decode cX6_init 4 = .ok (.aload_n 0, 1) := by decide +kernel
theorem dX6_init_5 : decode cX6_init 5 = .ok (.new 7, 3) := by decide +kernel
theorem dX6_init_8 : decode cX6_init 8 = .ok (.dup, 1) := by decide +kernel
theorem dX6_init_9 : decode cX6_init 9 = .ok (.invokespecial 9, 3) := by decide +kernel
theorem dX6_init_12 : decode cX6_init 12 = .ok (.putfield 10, 3) := by decide +kernel
theorem dX6_init_15 : decode cX6_init 15 = .ok (.aload_n 0, 1) := by decide +kernel
theorem dX6_init_16 : decode cX6_init 16 = .ok (.new 16, 3) := by decide +kernel
theorem dX6_init_19 : decode cX6_init 19 = .ok (.dup, 1) := by decide +kernel
theorem dX6_init_20 : decode cX6_init 20 = .ok (.invokespecial 18, 3) := by decide +kernel
theorem dX6_init_23 : decode cX6_init 23 = .ok (.putfield 19, 3) := by decide +kernel
theorem dX6_init_26 : decode cX6_init 26 = .ok (.aload_n 0, 1) := by decide +kernel
theorem dX6_init_27 : decode cX6_init 27 = .ok (.iconst 2, 1) := by decide +kernel
theorem dX6_init_28 : decode cX6_init 28 = .ok (.anewarray 7, 3) := by decide +kernel
theorem dX6_init_31 : decode cX6_init 31 = .ok (.putfield 23, 3) := by decide +kernel
theorem dX6_init_34 : decode cX6_init 34 = .ok (.aload_n 0, 1) := by decide +kernel
theorem dX6_init_35 : decode cX6_init 35 = .ok (.iconst 2, 1) := by decide +kernel
theorem dX6_init_36 : decode cX6_init 36 = .ok (.newarray .boolean, 2) := by decide +kernel
theorem dX6_init_38 : decode cX6_init 38 = .ok (.putfield 27, 3) := by decide +kernel
theorem dX6_init_41 : decode cX6_init 41 = .ok (.aload_n 0, 1) := by decide +kernel
theorem dX6_init_42 : decode cX6_init 42 = .ok (.new 31, 3) := by decide +kernel
theorem dX6_init_45 : decode cX6_init 45 = .ok (.dup, 1) := by decide +kernel
theorem dX6_init_46 : decode cX6_init 46 = .ok (.invokespecial 33, 3) := by decide +kernel
theorem dX6_init_49 : decode cX6_init 49 = .ok (.putfield 34, 3) := by decide +kernel
theorem dX6_init_52 : decode cX6_init 52 = .ok (.aload_n 0, 1) := by decide +kernel
theorem dX6_init_53 : decode cX6_init 53 = .ok (.new 38, 3) := by decide +kernel
theorem dX6_init_56 : decode cX6_init 56 = .ok (.dup, 1) := by decide +kernel
theorem dX6_init_57 : decode cX6_init 57 = .ok (.invokespecial 40, 3) := by decide +kernel
theorem dX6_init_60 : decode cX6_init 60 = .ok (.putfield 41, 3) := by decide +kernel
theorem dX6_init_63 : decode cX6_init 63 = .ok (.iconst 0, 1) := by decide +kernel
theorem dX6_init_64 : decode cX6_init 64 = .ok (.istore_n 1, 1) := by decide +kernel
theorem dX6_init_65 : decode cX6_init 65 = .ok (.iload_n 1, 1) := by decide +kernel
theorem dX6_init_66 : decode cX6_init 66 = .ok (.iconst 2, 1) := by decide +kernel
theorem dX6_init_67 : decode cX6_init 67 = .ok (.if_icmp .ge 22, 3) := by decide +kernel
theorem dX6_init_70 : decode cX6_init 70 = .ok (.aload_n 0, 1) := by decide +kernel
theorem dX6_init_71 : decode cX6_init 71 = .ok (.getfield 23, 3) := by decide +kernel
theorem dX6_init_74 : decode cX6_init 74 = .ok (.iload_n 1, 1) := by decide +kernel
theorem dX6_init_75 : decode cX6_init 75 = .ok (.new 7, 3) := by decide +kernel
theorem dX6_init_78 : decode cX6_init 78 = .ok (.dup, 1) := by decide +kernel
theorem dX6_init_79 : decode cX6_init 79 = .ok (.invokespecial 9, 3) := by decide +kernel
theorem dX6_init_82 : decode cX6_init 82 = .ok (.aastore, 1) := by decide +kernel
theorem dX6_init_83 : decode cX6_init 83 = .ok (.iinc 1 1, 3) := by decide +kernel
theorem dX6_init_86 : decode cX6_init 86 = .ok (.goto (-21), 3) := by decide +kernel
theorem dX6_init_89 : decode cX6_init 89 = .ok (.return_, 1) := by decide +kernel
theorem dX6_call_0 : decode cX6_call 0 = .ok (.iload_n 1, 1) := by decide +kernel
theorem dX6_call_1 : decode cX6_call 1 = .ok (.invokestatic 45, 3) := by decide +kernel
theorem dX6_call_4 : decode cX6_call 4 = .ok (.iload_n 2, 1) := by decide +kernel
theorem dX6_call_5 : decode cX6_call 5 = .ok (.iconst 0, 1) := by decide +kernel
theorem dX6_call_6 : decode cX6_call 6 = .ok (.bipush 9, 2) := by decide +kernel
theorem dX6_call_8 : decode cX6_call 8 = .ok (.invokestatic 49, 3) := by decide +kernel
theorem dX6_call_11 : decode cX6_call 11 = .ok (.aload_n 0, 1) := by decide +kernel
theorem dX6_call_12 : decode cX6_call 12 = .ok (.getfield 19, 3) := by decide +kernel
theorem dX6_call_15 : decode cX6_call 15 = .ok (.aload_n 0, 1) := by decide +kernel
theorem dX6_call_16 : decode cX6_call 16 = .ok (.getfield 10, 3) := by decide +kernel
theorem dX6_call_19 : decode cX6_call 19 = .ok (.invokevirtual 53, 3) := by decide +kernel
theorem dX6_call_22 : decode cX6_call 22 = .ok (.aload_n 0, 1) := by decide +kernel
theorem dX6_call_23 : decode cX6_call 23 = .ok (.getfield 10, 3) := by decide +kernel
theorem dX6_call_26 : decode cX6_call 26 = .ok (.iload_n 1, 1) := by decide +kernel
theorem dX6_call_27 : decode cX6_call 27 = .ok (.iload_n 2, 1) := by decide +kernel
theorem dX6_call_28 : decode cX6_call 28 = .ok (.invokevirtual 57, 3) := by decide +kernel
theorem dX6_call_31 : decode cX6_call 31 = .ok (.ireturn, 1) := by decide +kernel
theorem dX6_walk_0 : decode cX6_walk 0 = .ok (.iload_n 1, 1) := by decide +kernel
theorem dX6_walk_1 : decode cX6_walk 1 = .ok (.invokestatic 45, 3) := by decide +kernel
theorem dX6_walk_4 : decode cX6_walk 4 = .ok (.iload_n 2, 1) := by decide +kernel
theorem dX6_walk_5 : decode cX6_walk 5 = .ok (.bipush (-9), 2) := by decide +kernel
theorem dX6_walk_7 : decode cX6_walk 7 = .ok (.bipush 9, 2) := by decide +kernel
theorem dX6_walk_9 : decode cX6_walk 9 = .ok (.invokestatic 49, 3) := by decide +kernel
theorem dX6_walk_12 : decode cX6_walk 12 = .ok (.aload_n 0, 1) := by decide +kernel
theorem dX6_walk_13 : decode cX6_walk 13 = .ok (.getfield 19, 3) := by decide +kernel
theorem dX6_walk_16 : decode cX6_walk 16 = .ok (.aload_n 0, 1) := by decide +kernel
theorem dX6_walk_17 : decode cX6_walk 17 = .ok (.getfield 10, 3) := by decide +kernel
theorem dX6_walk_20 : decode cX6_walk 20 = .ok (.invokevirtual 53, 3) := by decide +kernel
theorem dX6_walk_23 : decode cX6_walk 23 = .ok (.aload_n 0, 1) := by decide +kernel
theorem dX6_walk_24 : decode cX6_walk 24 = .ok (.getfield 10, 3) := by decide +kernel
theorem dX6_walk_27 : decode cX6_walk 27 = .ok (.iload_n 1, 1) := by decide +kernel
theorem dX6_walk_28 : decode cX6_walk 28 = .ok (.iload_n 2, 1) := by decide +kernel
theorem dX6_walk_29 : decode cX6_walk 29 = .ok (.invokevirtual 61, 3) := by decide +kernel
theorem dX6_walk_32 : decode cX6_walk 32 = .ok (.ireturn, 1) := by decide +kernel
theorem dX6_throwBall_0 : decode cX6_throwBall 0 = .ok (.iload_n 1, 1) := by decide +kernel
theorem dX6_throwBall_1 : decode cX6_throwBall 1 = .ok (.iconst 0, 1) := by decide +kernel
theorem dX6_throwBall_2 : decode cX6_throwBall 2 = .ok (.aload_n 0, 1) := by decide +kernel
theorem dX6_throwBall_3 : decode cX6_throwBall 3 = .ok (.getfield 10, 3) := by decide +kernel
theorem dX6_throwBall_6 : decode cX6_throwBall 6 = .ok (.invokevirtual 64, 3) := by decide +kernel
theorem dX6_throwBall_9 : decode cX6_throwBall 9 = .ok (.invokestatic 49, 3) := by decide +kernel
theorem dX6_throwBall_12 : decode cX6_throwBall 12 = .ok (.iload_n 2, 1) := by decide +kernel
theorem dX6_throwBall_13 : decode cX6_throwBall 13 = .ok (.iconst 1, 1) := by decide +kernel
theorem dX6_throwBall_14 : decode cX6_throwBall 14 = .ok (.bipush 9, 2) := by decide +kernel
theorem dX6_throwBall_16 : decode cX6_throwBall 16 = .ok (.invokestatic 49, 3) := by decide +kernel
theorem dX6_throwBall_19 : decode cX6_throwBall 19 = .ok (.aload_n 0, 1) := by decide +kernel
theorem dX6_throwBall_20 : decode cX6_throwBall 20 = .ok (.getfield 19, 3) := by decide +kernel
theorem dX6_throwBall_23 : decode cX6_throwBall 23 = .ok (.aload_n 0, 1) := by decide +kernel
theorem dX6_throwBall_24 : decode cX6_throwBall 24 = .ok (.getfield 10, 3) := by decide +kernel
theorem dX6_throwBall_27 : decode cX6_throwBall 27 = .ok (.invokevirtual 53, 3) := by decide +kernel
theorem dX6_throwBall_30 : decode cX6_throwBall 30 = .ok (.aload_n 0, 1) := by decide +kernel
theorem dX6_throwBall_31 : decode cX6_throwBall 31 = .ok (.getfield 10, 3) := by decide +kernel
theorem dX6_throwBall_34 : decode cX6_throwBall 34 = .ok (.getfield 68, 3) := by decide +kernel
theorem dX6_throwBall_37 : decode cX6_throwBall 37 = .ok (.getfield 71, 3) := by decide +kernel
theorem dX6_throwBall_40 : decode cX6_throwBall 40 = .ok (.istore 4, 2) := by decide +kernel
theorem dX6_throwBall_42 : decode cX6_throwBall 42 = .ok (.aload_n 0, 1) := by decide +kernel
theorem dX6_throwBall_43 : decode cX6_throwBall 43 = .ok (.getfield 10, 3) := by decide +kernel
theorem dX6_throwBall_46 : decode cX6_throwBall 46 = .ok (.getfield 68, 3) := by decide +kernel
theorem dX6_throwBall_49 : decode cX6_throwBall 49 = .ok (.iload_n 1, 1) := by decide +kernel
theorem dX6_throwBall_50 : decode cX6_throwBall 50 = .ok (.putfield 71, 3) := by decide +kernel
theorem dX6_throwBall_53 : decode cX6_throwBall 53 = .ok (.aload_n 0, 1) := by decide +kernel
theorem dX6_throwBall_54 : decode cX6_throwBall 54 = .ok (.getfield 10, 3) := by decide +kernel
theorem dX6_throwBall_57 : decode cX6_throwBall 57 = .ok (.getfield 68, 3) := by decide +kernel
theorem dX6_throwBall_60 : decode cX6_throwBall 60 = .ok (.iload_n 2, 1) := by decide +kernel
theorem dX6_throwBall_61 : decode cX6_throwBall 61 = .ok (.putfield 75, 3) := by decide +kernel
theorem dX6_throwBall_64 : decode cX6_throwBall 64 = .ok (.aload_n 0, 1) := by decide +kernel
theorem dX6_throwBall_65 : decode cX6_throwBall 65 = .ok (.getfield 10, 3) := by decide +kernel
theorem dX6_throwBall_68 : decode cX6_throwBall 68 = .ok (.getfield 68, 3) := by decide +kernel
theorem dX6_throwBall_71 : decode cX6_throwBall 71 = .ok (.iload_n 3, 1) := by decide +kernel
theorem dX6_throwBall_72 : decode cX6_throwBall 72 = .ok (.putfield 78, 3) := by decide +kernel
theorem dX6_throwBall_75 : decode cX6_throwBall 75 = .ok (.iload 4, 2) := by decide +kernel
theorem dX6_throwBall_77 : decode cX6_throwBall 77 = .ok (.ireturn, 1) := by decide +kernel
theorem dX6_set_0 : decode cX6_set 0 = .ok (.iload_n 1, 1) := by decide +kernel
theorem dX6_set_1 : decode cX6_set 1 = .ok (.invokestatic 82, 3) := by decide +kernel
theorem dX6_set_4 : decode cX6_set 4 = .ok (.iload_n 2, 1) := by decide +kernel
theorem dX6_set_5 : decode cX6_set 5 = .ok (.getstatic 85, 3) := by decide +kernel
theorem dX6_set_8 : decode cX6_set 8 = .ok (.iload_n 1, 1) := by decide +kernel
theorem dX6_set_9 : decode cX6_set 9 = .ok (.iaload, 1) := by decide +kernel
theorem dX6_set_10 : decode cX6_set 10 = .ok (.getstatic 89, 3) := by decide +kernel
theorem dX6_set_13 : decode cX6_set 13 = .ok (.iload_n 1, 1) := by decide +kernel
theorem dX6_set_14 : decode cX6_set 14 = .ok (.iaload, 1) := by decide +kernel
theorem dX6_set_15 : decode cX6_set 15 = .ok (.invokestatic 49, 3) := by decide +kernel
theorem dX6_set_18 : decode cX6_set 18 = .ok (.iload_n 1, 1) := by decide +kernel
theorem dX6_set_19 : decode cX6_set 19 = .ok (.ifCond .ne 24, 3) := by decide +kernel
theorem dX6_set_22 : decode cX6_set 22 = .ok (.iload_n 2, 1) := by decide +kernel
theorem dX6_set_23 : decode cX6_set 23 = .ok (.aload_n 0, 1) := by decide +kernel
theorem dX6_set_24 : decode cX6_set 24 = .ok (.getfield 10, 3) := by decide +kernel
theorem dX6_set_27 : decode cX6_set 27 = .ok (.invokevirtual 92, 3) := by decide +kernel
theorem dX6_set_30 : decode cX6_set 30 = .ok (.if_icmp .ge 13, 3) := by decide +kernel
theorem dX6_set_33 : decode cX6_set 33 = .ok (.new 95, 3) := by decide +kernel
theorem dX6_set_36 : decode cX6_set 36 = .ok (.dup, 1) := by decide +kernel
theorem dX6_set_37 : decode cX6_set 37 = .ok (.ldc 97, 2) := by decide +kernel
theorem dX6_set_39 : decode cX6_set 39 = .ok (.invokespecial 99, 3) := by decide +kernel
theorem dX6_set_42 : decode cX6_set 42 = .ok (.athrow, 1) := by decide +kernel
theorem dX6_set_43 : decode cX6_set 43 = .ok (.aload_n 0, 1) := by decide +kernel
theorem dX6_set_44 : decode cX6_set 44 = .ok (.getfield 19, 3) := by decide +kernel
theorem dX6_set_47 : decode cX6_set 47 = .ok (.aload_n 0, 1) := by decide +kernel
theorem dX6_set_48 : decode cX6_set 48 = .ok (.getfield 10, 3) := by decide +kernel
theorem dX6_set_51 : decode cX6_set 51 = .ok (.invokevirtual 53, 3) := by decide +kernel
theorem dX6_set_54 : decode cX6_set 54 = .ok (.aload_n 0, 1) := by decide +kernel
theorem dX6_set_55 : decode cX6_set 55 = .ok (.getfield 10, 3) := by decide +kernel
theorem dX6_set_58 : decode cX6_set 58 = .ok (.getfield 102, 3) := by decide +kernel
theorem dX6_set_61 : decode cX6_set 61 = .ok (.iload_n 1, 1) := by decide +kernel
theorem dX6_set_62 : decode cX6_set 62 = .ok (.iaload, 1) := by decide +kernel
theorem dX6_set_63 : decode cX6_set 63 = .ok (.istore_n 3, 1) := by decide +kernel
theorem dX6_set_64 : decode cX6_set 64 = .ok (.aload_n 0, 1) := by decide +kernel
theorem dX6_set_65 : decode cX6_set 65 = .ok (.getfield 10, 3) := by decide +kernel
theorem dX6_set_68 : decode cX6_set 68 = .ok (.getfield 102, 3) := by decide +kernel
theorem dX6_set_71 : decode cX6_set 71 = .ok (.iload_n 1, 1) := by decide +kernel
theorem dX6_set_72 : decode cX6_set 72 = .ok (.iload_n 2, 1) := by decide +kernel
theorem dX6_set_73 : decode cX6_set 73 = .ok (.iastore, 1) := by decide +kernel
theorem dX6_set_74 : decode cX6_set 74 = .ok (.iload_n 3, 1) := by decide +kernel
theorem dX6_set_75 : decode cX6_set 75 = .ok (.ireturn, 1) := by decide +kernel
theorem dX6_pass_0 : decode cX6_pass 0 = .ok (.iload_n 1, 1) := by decide +kernel
theorem dX6_pass_1 : decode cX6_pass 1 = .ok (.iconst 1, 1) := by decide +kernel
theorem dX6_pass_2 : decode cX6_pass 2 = .ok (.bipush 99, 2) := by decide +kernel
theorem dX6_pass_4 : decode cX6_pass 4 = .ok (.invokestatic 49, 3) := by decide +kernel
theorem dX6_pass_7 : decode cX6_pass 7 = .ok (.aload_n 0, 1) := by decide +kernel
theorem dX6_pass_8 : decode cX6_pass 8 = .ok (.getfield 10, 3) := by decide +kernel
theorem dX6_pass_11 : decode cX6_pass 11 = .ok (.iload_n 1, 1) := by decide +kernel
theorem dX6_pass_12 : decode cX6_pass 12 = .ok (.invokevirtual 105, 3) := by decide +kernel
theorem dX6_pass_15 : decode cX6_pass 15 = .ok (.ifCond .ne 13, 3) := by decide +kernel
theorem dX6_pass_18 : decode cX6_pass 18 = .ok (.new 95, 3) := by decide +kernel
theorem dX6_pass_21 : decode cX6_pass 21 = .ok (.dup, 1) := by decide +kernel
theorem dX6_pass_22 : decode cX6_pass 22 = .ok (.ldc 109, 2) := by decide +kernel
theorem dX6_pass_24 : decode cX6_pass 24 = .ok (.invokespecial 99, 3) := by decide +kernel
theorem dX6_pass_27 : decode cX6_pass 27 = .ok (.athrow, 1) := by decide +kernel
theorem dX6_pass_28 : decode cX6_pass 28 = .ok (.aload_n 0, 1) := by decide +kernel
theorem dX6_pass_29 : decode cX6_pass 29 = .ok (.getfield 19, 3) := by decide +kernel
theorem dX6_pass_32 : decode cX6_pass 32 = .ok (.aload_n 0, 1) := by decide +kernel
theorem dX6_pass_33 : decode cX6_pass 33 = .ok (.getfield 10, 3) := by decide +kernel
theorem dX6_pass_36 : decode cX6_pass 36 = .ok (.invokevirtual 53, 3) := by decide +kernel
theorem dX6_pass_39 : decode cX6_pass 39 = .ok (.aload_n 0, 1) := by decide +kernel
theorem dX6_pass_40 : decode cX6_pass 40 = .ok (.getfield 10, 3) := by decide +kernel
theorem dX6_pass_43 : decode cX6_pass 43 = .ok (.iload_n 1, 1) := by decide +kernel
theorem dX6_pass_44 : decode cX6_pass 44 = .ok (.invokevirtual 111, 3) := by decide +kernel
theorem dX6_pass_47 : decode cX6_pass 47 = .ok (.ireturn, 1) := by decide +kernel
theorem dX6_append_0 : decode cX6_append 0 = .ok (.iload_n 1, 1) := by decide +kernel
theorem dX6_append_1 : decode cX6_append 1 = .ok (.bipush 33, 2) := by decide +kernel
theorem dX6_append_3 : decode cX6_append 3 = .ok (.bipush 126, 2) := by decide +kernel
theorem dX6_append_5 : decode cX6_append 5 = .ok (.invokestatic 49, 3) := by decide +kernel
theorem dX6_append_8 : decode cX6_append 8 = .ok (.aload_n 0, 1) := by decide +kernel
theorem dX6_append_9 : decode cX6_append 9 = .ok (.getfield 34, 3) := by decide +kernel
theorem dX6_append_12 : decode cX6_append 12 = .ok (.invokevirtual 115, 3) := by decide +kernel
theorem dX6_append_15 : decode cX6_append 15 = .ok (.ifCond .eq 13, 3) := by decide +kernel
theorem dX6_append_18 : decode cX6_append 18 = .ok (.new 95, 3) := by decide +kernel
theorem dX6_append_21 : decode cX6_append 21 = .ok (.dup, 1) := by decide +kernel
theorem dX6_append_22 : decode cX6_append 22 = .ok (.ldc 119, 2) := by decide +kernel
theorem dX6_append_24 : decode cX6_append 24 = .ok (.invokespecial 99, 3) := by decide +kernel
theorem dX6_append_27 : decode cX6_append 27 = .ok (.athrow, 1) := by decide +kernel
theorem dX6_append_28 : decode cX6_append 28 = .ok (.aload_n 0, 1) := by decide +kernel
theorem dX6_append_29 : decode cX6_append 29 = .ok (.getfield 34, 3) := by decide +kernel
theorem dX6_append_32 : decode cX6_append 32 = .ok (.iload_n 1, 1) := by decide +kernel
theorem dX6_append_33 : decode cX6_append 33 = .ok (.invokevirtual 121, 3) := by decide +kernel
theorem dX6_append_36 : decode cX6_append 36 = .ok (.aload_n 0, 1) := by decide +kernel
theorem dX6_append_37 : decode cX6_append 37 = .ok (.getfield 34, 3) := by decide +kernel
theorem dX6_append_40 : decode cX6_append 40 = .ok (.getfield 124, 3) := by decide +kernel
theorem dX6_append_43 : decode cX6_append 43 = .ok (.ireturn, 1) := by decide +kernel
theorem dX6_clearBuffer_0 : decode cX6_clearBuffer 0 = .ok (.aload_n 0, 1) := by decide +kernel
theorem dX6_clearBuffer_1 : decode cX6_clearBuffer 1 = .ok (.getfield 34, 3) := by decide +kernel
theorem dX6_clearBuffer_4 : decode cX6_clearBuffer 4 = .ok (.getfield 124, 3) := by decide +kernel
theorem dX6_clearBuffer_7 : decode cX6_clearBuffer 7 = .ok (.istore_n 1, 1) := by decide +kernel
theorem dX6_clearBuffer_8 : decode cX6_clearBuffer 8 = .ok (.aload_n 0, 1) := by decide +kernel
theorem dX6_clearBuffer_9 : decode cX6_clearBuffer 9 = .ok (.getfield 34, 3) := by decide +kernel
theorem dX6_clearBuffer_12 : decode cX6_clearBuffer 12 = .ok (.iconst 0, 1) := by decide +kernel
theorem dX6_clearBuffer_13 : decode cX6_clearBuffer 13 = .ok (.putfield 124, 3) := by decide +kernel
theorem dX6_clearBuffer_16 : decode cX6_clearBuffer 16 = .ok (.iload_n 1, 1) := by decide +kernel
theorem dX6_clearBuffer_17 : decode cX6_clearBuffer 17 = .ok (.ireturn, 1) := by decide +kernel
theorem dX6_firstError_0 : decode cX6_firstError 0 = .ok (.aload_n 0, 1) := by decide +kernel
theorem dX6_firstError_1 : decode cX6_firstError 1 = .ok (.getfield 34, 3) := by decide +kernel
theorem dX6_firstError_4 : decode cX6_firstError 4 = .ok (.invokevirtual 127, 3) := by decide +kernel
theorem dX6_firstError_7 : decode cX6_firstError 7 = .ok (.ireturn, 1) := by decide +kernel
theorem dX6_run_0 : decode cX6_run 0 = .ok (.aload_n 0, 1) := by decide +kernel
theorem dX6_run_1 : decode cX6_run 1 = .ok (.getfield 34, 3) := by decide +kernel
theorem dX6_run_4 : decode cX6_run 4 = .ok (.invokevirtual 130, 3) := by decide +kernel
theorem dX6_run_7 : decode cX6_run 7 = .ok (.ifCond .ne 13, 3) := by decide +kernel
theorem dX6_run_10 : decode cX6_run 10 = .ok (.new 133, 3) := by decide +kernel
theorem dX6_run_13 : decode cX6_run 13 = .ok (.dup, 1) := by decide +kernel
theorem dX6_run_14 : decode cX6_run 14 = .ok (.ldc 135, 2) := by decide +kernel
theorem dX6_run_16 : decode cX6_run 16 = .ok (.invokespecial 137, 3) := by decide +kernel
theorem dX6_run_19 : decode cX6_run 19 = .ok (.athrow, 1) := by decide +kernel
theorem dX6_run_20 : decode cX6_run 20 = .ok (.aload_n 0, 1) := by decide +kernel
theorem dX6_run_21 : decode cX6_run 21 = .ok (.getfield 19, 3) := by decide +kernel
theorem dX6_run_24 : decode cX6_run 24 = .ok (.aload_n 0, 1) := by decide +kernel
theorem dX6_run_25 : decode cX6_run 25 = .ok (.getfield 10, 3) := by decide +kernel
theorem dX6_run_28 : decode cX6_run 28 = .ok (.invokevirtual 53, 3) := by decide +kernel
theorem dX6_run_31 : decode cX6_run 31 = .ok (.iconst 0, 1) := by decide +kernel
theorem dX6_run_32 : decode cX6_run 32 = .ok (.istore_n 1, 1) := by decide +kernel
theorem dX6_run_33 : decode cX6_run 33 = .ok (.iconst 0, 1) := by decide +kernel
theorem dX6_run_34 : decode cX6_run 34 = .ok (.istore_n 2, 1) := by decide +kernel
theorem dX6_run_35 : decode cX6_run 35 = .ok (.iload_n 2, 1) := by decide +kernel
theorem dX6_run_36 : decode cX6_run 36 = .ok (.aload_n 0, 1) := by decide +kernel
theorem dX6_run_37 : decode cX6_run 37 = .ok (.getfield 34, 3) := by decide +kernel
theorem dX6_run_40 : decode cX6_run 40 = .ok (.getfield 124, 3) := by decide +kernel
theorem dX6_run_43 : decode cX6_run 43 = .ok (.if_icmp .ge 34, 3) := by decide +kernel
theorem dX6_run_46 : decode cX6_run 46 = .ok (.aload_n 0, 1) := by decide +kernel
theorem dX6_run_47 : decode cX6_run 47 = .ok (.getfield 34, 3) := by decide +kernel
theorem dX6_run_50 : decode cX6_run 50 = .ok (.iload_n 2, 1) := by decide +kernel
theorem dX6_run_51 : decode cX6_run 51 = .ok (.invokevirtual 138, 3) := by decide +kernel
theorem dX6_run_54 : decode cX6_run 54 = .ok (.ifCond .eq 17, 3) := by decide +kernel
theorem dX6_run_57 : decode cX6_run 57 = .ok (.aload_n 0, 1) := by decide +kernel
theorem dX6_run_58 : decode cX6_run 58 = .ok (.iload_n 2, 1) := by decide +kernel
theorem dX6_run_59 : decode cX6_run 59 = .ok (.invokevirtual 141, 3) := by decide +kernel
theorem dX6_run_62 : decode cX6_run 62 = .ok (.ifCond .ne 6, 3) := by decide +kernel
theorem dX6_run_65 : decode cX6_run 65 = .ok (.goto 12, 3) := by decide +kernel
theorem dX6_run_68 : decode cX6_run 68 = .ok (.iinc 1 1, 3) := by decide +kernel
theorem dX6_run_71 : decode cX6_run 71 = .ok (.iinc 2 1, 3) := by decide +kernel
theorem dX6_run_74 : decode cX6_run 74 = .ok (.goto (-39), 3) := by decide +kernel
theorem dX6_run_77 : decode cX6_run 77 = .ok (.aload_n 0, 1) := by decide +kernel
theorem dX6_run_78 : decode cX6_run 78 = .ok (.getfield 34, 3) := by decide +kernel
theorem dX6_run_81 : decode cX6_run 81 = .ok (.iconst 0, 1) := by decide +kernel
theorem dX6_run_82 : decode cX6_run 82 = .ok (.putfield 124, 3) := by decide +kernel
theorem dX6_run_85 : decode cX6_run 85 = .ok (.iload_n 1, 1) := by decide +kernel
theorem dX6_run_86 : decode cX6_run 86 = .ok (.ireturn, 1) := by decide +kernel
theorem dX6_keep_0 : decode cX6_keep 0 = .ok (.iload_n 1, 1) := by decide +kernel
theorem dX6_keep_1 : decode cX6_keep 1 = .ok (.iconst 0, 1) := by decide +kernel
theorem dX6_keep_2 : decode cX6_keep 2 = .ok (.iconst 1, 1) := by decide +kernel
theorem dX6_keep_3 : decode cX6_keep 3 = .ok (.invokestatic 49, 3) := by decide +kernel
theorem dX6_keep_6 : decode cX6_keep 6 = .ok (.aload_n 0, 1) := by decide +kernel
theorem dX6_keep_7 : decode cX6_keep 7 = .ok (.getfield 23, 3) := by decide +kernel
theorem dX6_keep_10 : decode cX6_keep 10 = .ok (.iload_n 1, 1) := by decide +kernel
theorem dX6_keep_11 : decode cX6_keep 11 = .ok (.aaload, 1) := by decide +kernel
theorem dX6_keep_12 : decode cX6_keep 12 = .ok (.aload_n 0, 1) := by decide +kernel
theorem dX6_keep_13 : decode cX6_keep 13 = .ok (.getfield 10, 3) := by decide +kernel
theorem dX6_keep_16 : decode cX6_keep 16 = .ok (.invokevirtual 144, 3) := by decide +kernel
theorem dX6_keep_19 : decode cX6_keep 19 = .ok (.aload_n 0, 1) := by decide +kernel
theorem dX6_keep_20 : decode cX6_keep 20 = .ok (.getfield 27, 3) := by decide +kernel
theorem dX6_keep_23 : decode cX6_keep 23 = .ok (.iload_n 1, 1) := by decide +kernel
theorem dX6_keep_24 : decode cX6_keep 24 = .ok (.iconst 1, 1) := by decide +kernel
theorem dX6_keep_25 : decode cX6_keep 25 = .ok (.bastore, 1) := by decide +kernel
theorem dX6_keep_26 : decode cX6_keep 26 = .ok (.aload_n 0, 1) := by decide +kernel
theorem dX6_keep_27 : decode cX6_keep 27 = .ok (.getfield 10, 3) := by decide +kernel
theorem dX6_keep_30 : decode cX6_keep 30 = .ok (.getfield 147, 3) := by decide +kernel
theorem dX6_keep_33 : decode cX6_keep 33 = .ok (.ireturn, 1) := by decide +kernel
theorem dX6_goBack_0 : decode cX6_goBack 0 = .ok (.iload_n 1, 1) := by decide +kernel
theorem dX6_goBack_1 : decode cX6_goBack 1 = .ok (.iconst 0, 1) := by decide +kernel
theorem dX6_goBack_2 : decode cX6_goBack 2 = .ok (.iconst 1, 1) := by decide +kernel
theorem dX6_goBack_3 : decode cX6_goBack 3 = .ok (.invokestatic 49, 3) := by decide +kernel
theorem dX6_goBack_6 : decode cX6_goBack 6 = .ok (.aload_n 0, 1) := by decide +kernel
theorem dX6_goBack_7 : decode cX6_goBack 7 = .ok (.getfield 27, 3) := by decide +kernel
theorem dX6_goBack_10 : decode cX6_goBack 10 = .ok (.iload_n 1, 1) := by decide +kernel
theorem dX6_goBack_11 : decode cX6_goBack 11 = .ok (.baload, 1) := by decide +kernel
theorem dX6_goBack_12 : decode cX6_goBack 12 = .ok (.ifCond .ne 13, 3) := by decide +kernel
theorem dX6_goBack_15 : decode cX6_goBack 15 = .ok (.new 95, 3) := by decide +kernel
theorem dX6_goBack_18 : decode cX6_goBack 18 = .ok (.dup, 1) := by decide +kernel
theorem dX6_goBack_19 : decode cX6_goBack 19 = .ok (.ldc 150, 2) := by decide +kernel
theorem dX6_goBack_21 : decode cX6_goBack 21 = .ok (.invokespecial 99, 3) := by decide +kernel
theorem dX6_goBack_24 : decode cX6_goBack 24 = .ok (.athrow, 1) := by decide +kernel
theorem dX6_goBack_25 : decode cX6_goBack 25 = .ok (.aload_n 0, 1) := by decide +kernel
theorem dX6_goBack_26 : decode cX6_goBack 26 = .ok (.getfield 19, 3) := by decide +kernel
theorem dX6_goBack_29 : decode cX6_goBack 29 = .ok (.aload_n 0, 1) := by decide +kernel
theorem dX6_goBack_30 : decode cX6_goBack 30 = .ok (.getfield 10, 3) := by decide +kernel
theorem dX6_goBack_33 : decode cX6_goBack 33 = .ok (.invokevirtual 53, 3) := by decide +kernel
theorem dX6_goBack_36 : decode cX6_goBack 36 = .ok (.aload_n 0, 1) := by decide +kernel
theorem dX6_goBack_37 : decode cX6_goBack 37 = .ok (.getfield 10, 3) := by decide +kernel
theorem dX6_goBack_40 : decode cX6_goBack 40 = .ok (.aload_n 0, 1) := by decide +kernel
theorem dX6_goBack_41 : decode cX6_goBack 41 = .ok (.getfield 23, 3) := by decide +kernel
theorem dX6_goBack_44 : decode cX6_goBack 44 = .ok (.iload_n 1, 1) := by decide +kernel
theorem dX6_goBack_45 : decode cX6_goBack 45 = .ok (.aaload, 1) := by decide +kernel
theorem dX6_goBack_46 : decode cX6_goBack 46 = .ok (.invokevirtual 144, 3) := by decide +kernel
theorem dX6_goBack_49 : decode cX6_goBack 49 = .ok (.aload_n 0, 1) := by decide +kernel
theorem dX6_goBack_50 : decode cX6_goBack 50 = .ok (.getfield 10, 3) := by decide +kernel
theorem dX6_goBack_53 : decode cX6_goBack 53 = .ok (.getfield 147, 3) := by decide +kernel
theorem dX6_goBack_56 : decode cX6_goBack 56 = .ok (.ireturn, 1) := by decide +kernel
theorem dX6_undo_0 : decode cX6_undo 0 = .ok (.aload_n 0, 1) := by decide +kernel
theorem dX6_undo_1 : decode cX6_undo 1 = .ok (.getfield 19, 3) := by decide +kernel
theorem dX6_undo_4 : decode cX6_undo 4 = .ok (.getfield 152, 3) := by decide +kernel
theorem dX6_undo_7 : decode cX6_undo 7 = .ok (.ifCond .gt 13, 3) := by decide +kernel
theorem dX6_undo_10 : decode cX6_undo 10 = .ok (.new 95, 3) := by decide +kernel
theorem dX6_undo_13 : decode cX6_undo 13 = .ok (.dup, 1) := by decide +kernel
theorem dX6_undo_14 : decode cX6_undo 14 = .ok (.ldc 155, 2) := by decide +kernel
theorem dX6_undo_16 : decode cX6_undo 16 = .ok (.invokespecial 99, 3) := by decide +kernel
theorem dX6_undo_19 : decode cX6_undo 19 = .ok (.athrow, 1) := by decide +kernel
theorem dX6_undo_20 : decode cX6_undo 20 = .ok (.aload_n 0, 1) := by decide +kernel
theorem dX6_undo_21 : decode cX6_undo 21 = .ok (.getfield 19, 3) := by decide +kernel
theorem dX6_undo_24 : decode cX6_undo 24 = .ok (.aload_n 0, 1) := by decide +kernel
theorem dX6_undo_25 : decode cX6_undo 25 = .ok (.getfield 10, 3) := by decide +kernel
theorem dX6_undo_28 : decode cX6_undo 28 = .ok (.invokevirtual 157, 3) := by decide +kernel
theorem dX6_undo_31 : decode cX6_undo 31 = .ok (.aload_n 0, 1) := by decide +kernel
theorem dX6_undo_32 : decode cX6_undo 32 = .ok (.getfield 19, 3) := by decide +kernel
theorem dX6_undo_35 : decode cX6_undo 35 = .ok (.getfield 152, 3) := by decide +kernel
theorem dX6_undo_38 : decode cX6_undo 38 = .ok (.ireturn, 1) := by decide +kernel
theorem dX6_playerOf_0 : decode cX6_playerOf 0 = .ok (.iload_n 1, 1) := by decide +kernel
theorem dX6_playerOf_1 : decode cX6_playerOf 1 = .ok (.invokestatic 45, 3) := by decide +kernel
theorem dX6_playerOf_4 : decode cX6_playerOf 4 = .ok (.iload_n 2, 1) := by decide +kernel
theorem dX6_playerOf_5 : decode cX6_playerOf 5 = .ok (.iconst 0, 1) := by decide +kernel
theorem dX6_playerOf_6 : decode cX6_playerOf 6 = .ok (.bipush 6, 2) := by decide +kernel
theorem dX6_playerOf_8 : decode cX6_playerOf 8 = .ok (.invokestatic 49, 3) := by decide +kernel
theorem dX6_playerOf_11 : decode cX6_playerOf 11 = .ok (.aload_n 0, 1) := by decide +kernel
theorem dX6_playerOf_12 : decode cX6_playerOf 12 = .ok (.getfield 10, 3) := by decide +kernel
theorem dX6_playerOf_15 : decode cX6_playerOf 15 = .ok (.iload_n 1, 1) := by decide +kernel
theorem dX6_playerOf_16 : decode cX6_playerOf 16 = .ok (.iload_n 2, 1) := by decide +kernel
theorem dX6_playerOf_17 : decode cX6_playerOf 17 = .ok (.invokevirtual 160, 3) := by decide +kernel
theorem dX6_playerOf_20 : decode cX6_playerOf 20 = .ok (.ireturn, 1) := by decide +kernel
theorem dX6_echoOf_0 : decode cX6_echoOf 0 = .ok (.iload_n 1, 1) := by decide +kernel
theorem dX6_echoOf_1 : decode cX6_echoOf 1 = .ok (.ifCond .ge 13, 3) := by decide +kernel
theorem dX6_echoOf_4 : decode cX6_echoOf 4 = .ok (.new 133, 3) := by decide +kernel
theorem dX6_echoOf_7 : decode cX6_echoOf 7 = .ok (.dup, 1) := by decide +kernel
theorem dX6_echoOf_8 : decode cX6_echoOf 8 = .ok (.ldc 163, 2) := by decide +kernel
theorem dX6_echoOf_10 : decode cX6_echoOf 10 = .ok (.invokespecial 137, 3) := by decide +kernel
theorem dX6_echoOf_13 : decode cX6_echoOf 13 = .ok (.athrow, 1) := by decide +kernel
theorem dX6_echoOf_14 : decode cX6_echoOf 14 = .ok (.iload_n 2, 1) := by decide +kernel
theorem dX6_echoOf_15 : decode cX6_echoOf 15 = .ok (.iconst 0, 1) := by decide +kernel
theorem dX6_echoOf_16 : decode cX6_echoOf 16 = .ok (.iconst 5, 1) := by decide +kernel
theorem dX6_echoOf_17 : decode cX6_echoOf 17 = .ok (.invokestatic 49, 3) := by decide +kernel
theorem dX6_echoOf_20 : decode cX6_echoOf 20 = .ok (.aload_n 0, 1) := by decide +kernel
theorem dX6_echoOf_21 : decode cX6_echoOf 21 = .ok (.getfield 10, 3) := by decide +kernel
theorem dX6_echoOf_24 : decode cX6_echoOf 24 = .ok (.iload_n 1, 1) := by decide +kernel
theorem dX6_echoOf_25 : decode cX6_echoOf 25 = .ok (.iload_n 2, 1) := by decide +kernel
theorem dX6_echoOf_26 : decode cX6_echoOf 26 = .ok (.invokevirtual 165, 3) := by decide +kernel
theorem dX6_echoOf_29 : decode cX6_echoOf 29 = .ok (.ireturn, 1) := by decide +kernel
theorem dX6_count_0 : decode cX6_count 0 = .ok (.iload_n 1, 1) := by decide +kernel
theorem dX6_count_1 : decode cX6_count 1 = .ok (.iconst 0, 1) := by decide +kernel
theorem dX6_count_2 : decode cX6_count 2 = .ok (.bipush 11, 2) := by decide +kernel
theorem dX6_count_4 : decode cX6_count 4 = .ok (.invokestatic 49, 3) := by decide +kernel
theorem dX6_count_7 : decode cX6_count 7 = .ok (.aload_n 0, 1) := by decide +kernel
theorem dX6_count_8 : decode cX6_count 8 = .ok (.iload_n 1, 1) := by decide +kernel
theorem dX6_count_9 : decode cX6_count 9 = .ok (.invokevirtual 168, 3) := by decide +kernel
theorem dX6_count_12 : decode cX6_count 12 = .ok (.ireturn, 1) := by decide +kernel
theorem dX6_setting_0 : decode cX6_setting 0 = .ok (.iload_n 1, 1) := by decide +kernel
theorem dX6_setting_1 : decode cX6_setting 1 = .ok (.invokestatic 82, 3) := by decide +kernel
theorem dX6_setting_4 : decode cX6_setting 4 = .ok (.aload_n 0, 1) := by decide +kernel
theorem dX6_setting_5 : decode cX6_setting 5 = .ok (.getfield 10, 3) := by decide +kernel
theorem dX6_setting_8 : decode cX6_setting 8 = .ok (.getfield 102, 3) := by decide +kernel
theorem dX6_setting_11 : decode cX6_setting 11 = .ok (.iload_n 1, 1) := by decide +kernel
theorem dX6_setting_12 : decode cX6_setting 12 = .ok (.iaload, 1) := by decide +kernel
theorem dX6_setting_13 : decode cX6_setting 13 = .ok (.ireturn, 1) := by decide +kernel
theorem dX6_ballIn_0 : decode cX6_ballIn 0 = .ok (.iload_n 1, 1) := by decide +kernel
theorem dX6_ballIn_1 : decode cX6_ballIn 1 = .ok (.iconst 0, 1) := by decide +kernel
theorem dX6_ballIn_2 : decode cX6_ballIn 2 = .ok (.bipush 99, 2) := by decide +kernel
theorem dX6_ballIn_4 : decode cX6_ballIn 4 = .ok (.invokestatic 49, 3) := by decide +kernel
theorem dX6_ballIn_7 : decode cX6_ballIn 7 = .ok (.iload_n 2, 1) := by decide +kernel
theorem dX6_ballIn_8 : decode cX6_ballIn 8 = .ok (.iconst 0, 1) := by decide +kernel
theorem dX6_ballIn_9 : decode cX6_ballIn 9 = .ok (.iconst 2, 1) := by decide +kernel
theorem dX6_ballIn_10 : decode cX6_ballIn 10 = .ok (.invokestatic 49, 3) := by decide +kernel
theorem dX6_ballIn_13 : decode cX6_ballIn 13 = .ok (.aload_n 0, 1) := by decide +kernel
theorem dX6_ballIn_14 : decode cX6_ballIn 14 = .ok (.iload_n 1, 1) := by decide +kernel
theorem dX6_ballIn_15 : decode cX6_ballIn 15 = .ok (.iload_n 2, 1) := by decide +kernel
theorem dX6_ballIn_16 : decode cX6_ballIn 16 = .ok (.invokevirtual 171, 3) := by decide +kernel
theorem dX6_ballIn_19 : decode cX6_ballIn 19 = .ok (.ireturn, 1) := by decide +kernel
theorem dX6_echoIn_0 : decode cX6_echoIn 0 = .ok (.iload_n 1, 1) := by decide +kernel
theorem dX6_echoIn_1 : decode cX6_echoIn 1 = .ok (.invokestatic 45, 3) := by decide +kernel
theorem dX6_echoIn_4 : decode cX6_echoIn 4 = .ok (.iload_n 2, 1) := by decide +kernel
theorem dX6_echoIn_5 : decode cX6_echoIn 5 = .ok (.iconst 0, 1) := by decide +kernel
theorem dX6_echoIn_6 : decode cX6_echoIn 6 = .ok (.iconst 1, 1) := by decide +kernel
theorem dX6_echoIn_7 : decode cX6_echoIn 7 = .ok (.invokestatic 49, 3) := by decide +kernel
theorem dX6_echoIn_10 : decode cX6_echoIn 10 = .ok (.aload_n 0, 1) := by decide +kernel
theorem dX6_echoIn_11 : decode cX6_echoIn 11 = .ok (.getfield 10, 3) := by decide +kernel
theorem dX6_echoIn_14 : decode cX6_echoIn 14 = .ok (.aload_n 0, 1) := by decide +kernel
theorem dX6_echoIn_15 : decode cX6_echoIn 15 = .ok (.getfield 10, 3) := by decide +kernel
theorem dX6_echoIn_18 : decode cX6_echoIn 18 = .ok (.getfield 174, 3) := by decide +kernel
theorem dX6_echoIn_21 : decode cX6_echoIn 21 = .ok (.iload_n 1, 1) := by decide +kernel
theorem dX6_echoIn_22 : decode cX6_echoIn 22 = .ok (.aaload, 1) := by decide +kernel
theorem dX6_echoIn_23 : decode cX6_echoIn 23 = .ok (.getfield 178, 3) := by decide +kernel
theorem dX6_echoIn_26 : decode cX6_echoIn 26 = .ok (.iload_n 2, 1) := by decide +kernel
theorem dX6_echoIn_27 : decode cX6_echoIn 27 = .ok (.invokevirtual 181, 3) := by decide +kernel
theorem dX6_echoIn_30 : decode cX6_echoIn 30 = .ok (.ireturn, 1) := by decide +kernel
theorem dX6_wouldClash_0 : decode cX6_wouldClash 0 = .ok (.iload_n 1, 1) := by decide +kernel
theorem dX6_wouldClash_1 : decode cX6_wouldClash 1 = .ok (.invokestatic 45, 3) := by decide +kernel
theorem dX6_wouldClash_4 : decode cX6_wouldClash 4 = .ok (.iload_n 2, 1) := by decide +kernel
theorem dX6_wouldClash_5 : decode cX6_wouldClash 5 = .ok (.iconst 0, 1) := by decide +kernel
theorem dX6_wouldClash_6 : decode cX6_wouldClash 6 = .ok (.iconst 1, 1) := by decide +kernel
theorem dX6_wouldClash_7 : decode cX6_wouldClash 7 = .ok (.invokestatic 49, 3) := by decide +kernel
theorem dX6_wouldClash_10 : decode cX6_wouldClash 10 = .ok (.aload_n 0, 1) := by decide +kernel
theorem dX6_wouldClash_11 : decode cX6_wouldClash 11 = .ok (.getfield 10, 3) := by decide +kernel
theorem dX6_wouldClash_14 : decode cX6_wouldClash 14 = .ok (.iload_n 1, 1) := by decide +kernel
theorem dX6_wouldClash_15 : decode cX6_wouldClash 15 = .ok (.iload_n 2, 1) := by decide +kernel
theorem dX6_wouldClash_16 : decode cX6_wouldClash 16 = .ok (.invokevirtual 184, 3) := by decide +kernel
theorem dX6_wouldClash_19 : decode cX6_wouldClash 19 = .ok (.ifCond .eq 7, 3) := by decide +kernel
theorem dX6_wouldClash_22 : decode cX6_wouldClash 22 = .ok (.iconst 1, 1) := by decide +kernel
theorem dX6_wouldClash_23 : decode cX6_wouldClash 23 = .ok (.goto 4, 3) := by decide +kernel
theorem dX6_wouldClash_26 : decode cX6_wouldClash 26 = .ok (.iconst 0, 1) := by decide +kernel
theorem dX6_wouldClash_27 : decode cX6_wouldClash 27 = .ok (.ireturn, 1) := by decide +kernel
theorem dX6_callIn_0 : decode cX6_callIn 0 = .ok (.iload_n 1, 1) := by decide +kernel
theorem dX6_callIn_1 : decode cX6_callIn 1 = .ok (.invokestatic 45, 3) := by decide +kernel
theorem dX6_callIn_4 : decode cX6_callIn 4 = .ok (.aload_n 0, 1) := by decide +kernel
theorem dX6_callIn_5 : decode cX6_callIn 5 = .ok (.getfield 10, 3) := by decide +kernel
theorem dX6_callIn_8 : decode cX6_callIn 8 = .ok (.iload_n 1, 1) := by decide +kernel
theorem dX6_callIn_9 : decode cX6_callIn 9 = .ok (.invokevirtual 188, 3) := by decide +kernel
theorem dX6_callIn_12 : decode cX6_callIn 12 = .ok (.ireturn, 1) := by decide +kernel
theorem dX6_quietIn_0 : decode cX6_quietIn 0 = .ok (.aload_n 0, 1) := by decide +kernel
theorem dX6_quietIn_1 : decode cX6_quietIn 1 = .ok (.getfield 10, 3) := by decide +kernel
theorem dX6_quietIn_4 : decode cX6_quietIn 4 = .ok (.invokevirtual 191, 3) := by decide +kernel
theorem dX6_quietIn_7 : decode cX6_quietIn 7 = .ok (.ireturn, 1) := by decide +kernel
theorem dX6_best_0 : decode cX6_best 0 = .ok (.aload_n 0, 1) := by decide +kernel
theorem dX6_best_1 : decode cX6_best 1 = .ok (.getfield 10, 3) := by decide +kernel
theorem dX6_best_4 : decode cX6_best 4 = .ok (.invokevirtual 194, 3) := by decide +kernel
theorem dX6_best_7 : decode cX6_best 7 = .ok (.ireturn, 1) := by decide +kernel
theorem dX6_answeredShare_0 : decode cX6_answeredShare 0 = .ok (.aload_n 0, 1) := by decide +kernel
theorem dX6_answeredShare_1 : decode cX6_answeredShare 1 = .ok (.getfield 10, 3) := by decide +kernel
theorem dX6_answeredShare_4 : decode cX6_answeredShare 4 = .ok (.invokevirtual 197, 3) := by decide +kernel
theorem dX6_answeredShare_7 : decode cX6_answeredShare 7 = .ok (.dreturn, 1) := by decide +kernel
theorem dX6_digest_0 : decode cX6_digest 0 = .ok (.ldc2_w 201, 3) := by decide +kernel
theorem dX6_digest_3 : decode cX6_digest 3 = .ok (.lstore_n 1, 1) := by decide +kernel
theorem dX6_digest_4 : decode cX6_digest 4 = .ok (.iconst 0, 1) := by decide +kernel
theorem dX6_digest_5 : decode cX6_digest 5 = .ok (.istore_n 3, 1) := by decide +kernel
theorem dX6_digest_6 : decode cX6_digest 6 = .ok (.iload_n 3, 1) := by decide +kernel
theorem dX6_digest_7 : decode cX6_digest 7 = .ok (.bipush 12, 2) := by decide +kernel
theorem dX6_digest_9 : decode cX6_digest 9 = .ok (.if_icmp .ge 20, 3) := by decide +kernel
theorem dX6_digest_12 : decode cX6_digest 12 = .ok (.lload_n 1, 1) := by decide +kernel
theorem dX6_digest_13 : decode cX6_digest 13 = .ok (.aload_n 0, 1) := by decide +kernel
theorem dX6_digest_14 : decode cX6_digest 14 = .ok (.iload_n 3, 1) := by decide +kernel
theorem dX6_digest_15 : decode cX6_digest 15 = .ok (.invokevirtual 168, 3) := by decide +kernel
theorem dX6_digest_18 : decode cX6_digest 18 = .ok (.i2l, 1) := by decide +kernel
theorem dX6_digest_19 : decode cX6_digest 19 = .ok (.invokestatic 203, 3) := by decide +kernel
theorem dX6_digest_22 : decode cX6_digest 22 = .ok (.lstore_n 1, 1) := by decide +kernel
theorem dX6_digest_23 : decode cX6_digest 23 = .ok (.iinc 3 1, 3) := by decide +kernel
theorem dX6_digest_26 : decode cX6_digest 26 = .ok (.goto (-20), 3) := by decide +kernel
theorem dX6_digest_29 : decode cX6_digest 29 = .ok (.iconst 0, 1) := by decide +kernel
theorem dX6_digest_30 : decode cX6_digest 30 = .ok (.istore_n 3, 1) := by decide +kernel
theorem dX6_digest_31 : decode cX6_digest 31 = .ok (.iload_n 3, 1) := by decide +kernel
theorem dX6_digest_32 : decode cX6_digest 32 = .ok (.iconst 3, 1) := by decide +kernel
theorem dX6_digest_33 : decode cX6_digest 33 = .ok (.if_icmp .ge 24, 3) := by decide +kernel
theorem dX6_digest_36 : decode cX6_digest 36 = .ok (.lload_n 1, 1) := by decide +kernel
theorem dX6_digest_37 : decode cX6_digest 37 = .ok (.aload_n 0, 1) := by decide +kernel
theorem dX6_digest_38 : decode cX6_digest 38 = .ok (.getfield 10, 3) := by decide +kernel
theorem dX6_digest_41 : decode cX6_digest 41 = .ok (.getfield 102, 3) := by decide +kernel
theorem dX6_digest_44 : decode cX6_digest 44 = .ok (.iload_n 3, 1) := by decide +kernel
theorem dX6_digest_45 : decode cX6_digest 45 = .ok (.iaload, 1) := by decide +kernel
theorem dX6_digest_46 : decode cX6_digest 46 = .ok (.i2l, 1) := by decide +kernel
theorem dX6_digest_47 : decode cX6_digest 47 = .ok (.invokestatic 203, 3) := by decide +kernel
theorem dX6_digest_50 : decode cX6_digest 50 = .ok (.lstore_n 1, 1) := by decide +kernel
theorem dX6_digest_51 : decode cX6_digest 51 = .ok (.iinc 3 1, 3) := by decide +kernel
theorem dX6_digest_54 : decode cX6_digest 54 = .ok (.goto (-23), 3) := by decide +kernel
theorem dX6_digest_57 : decode cX6_digest 57 = .ok (.iconst 0, 1) := by decide +kernel
theorem dX6_digest_58 : decode cX6_digest 58 = .ok (.istore_n 3, 1) := by decide +kernel
theorem dX6_digest_59 : decode cX6_digest 59 = .ok (.iload_n 3, 1) := by decide +kernel
theorem dX6_digest_60 : decode cX6_digest 60 = .ok (.iconst 4, 1) := by decide +kernel
theorem dX6_digest_61 : decode cX6_digest 61 = .ok (.if_icmp .ge 16, 3) := by decide +kernel
theorem dX6_digest_64 : decode cX6_digest 64 = .ok (.aload_n 0, 1) := by decide +kernel
theorem dX6_digest_65 : decode cX6_digest 65 = .ok (.lload_n 1, 1) := by decide +kernel
theorem dX6_digest_66 : decode cX6_digest 66 = .ok (.iload_n 3, 1) := by decide +kernel
theorem dX6_digest_67 : decode cX6_digest 67 = .ok (.invokevirtual 207, 3) := by decide +kernel
theorem dX6_digest_70 : decode cX6_digest 70 = .ok (.lstore_n 1, 1) := by decide +kernel
theorem dX6_digest_71 : decode cX6_digest 71 = .ok (.iinc 3 1, 3) := by decide +kernel
theorem dX6_digest_74 : decode cX6_digest 74 = .ok (.goto (-15), 3) := by decide +kernel
theorem dX6_digest_77 : decode cX6_digest 77 = .ok (.iconst 0, 1) := by decide +kernel
theorem dX6_digest_78 : decode cX6_digest 78 = .ok (.istore_n 3, 1) := by decide +kernel
theorem dX6_digest_79 : decode cX6_digest 79 = .ok (.iload_n 3, 1) := by decide +kernel
theorem dX6_digest_80 : decode cX6_digest 80 = .ok (.aload_n 0, 1) := by decide +kernel
theorem dX6_digest_81 : decode cX6_digest 81 = .ok (.getfield 10, 3) := by decide +kernel
theorem dX6_digest_84 : decode cX6_digest 84 = .ok (.getfield 211, 3) := by decide +kernel
theorem dX6_digest_87 : decode cX6_digest 87 = .ok (.if_icmp .ge 41, 3) := by decide +kernel
theorem dX6_digest_90 : decode cX6_digest 90 = .ok (.iconst 0, 1) := by decide +kernel
theorem dX6_digest_91 : decode cX6_digest 91 = .ok (.istore 4, 2) := by decide +kernel
theorem dX6_digest_93 : decode cX6_digest 93 = .ok (.iload 4, 2) := by decide +kernel
theorem dX6_digest_95 : decode cX6_digest 95 = .ok (.bipush 6, 2) := by decide +kernel
theorem dX6_digest_97 : decode cX6_digest 97 = .ok (.if_icmp .ge 25, 3) := by decide +kernel
theorem dX6_digest_100 : decode cX6_digest 100 = .ok (.lload_n 1, 1) := by decide +kernel
theorem dX6_digest_101 : decode cX6_digest 101 = .ok (.aload_n 0, 1) := by decide +kernel
theorem dX6_digest_102 : decode cX6_digest 102 = .ok (.getfield 10, 3) := by decide +kernel
theorem dX6_digest_105 : decode cX6_digest 105 = .ok (.iload_n 3, 1) := by decide +kernel
theorem dX6_digest_106 : decode cX6_digest 106 = .ok (.iload 4, 2) := by decide +kernel
theorem dX6_digest_108 : decode cX6_digest 108 = .ok (.invokevirtual 165, 3) := by decide +kernel
theorem dX6_digest_111 : decode cX6_digest 111 = .ok (.i2l, 1) := by decide +kernel
theorem dX6_digest_112 : decode cX6_digest 112 = .ok (.invokestatic 203, 3) := by decide +kernel
theorem dX6_digest_115 : decode cX6_digest 115 = .ok (.lstore_n 1, 1) := by decide +kernel
theorem dX6_digest_116 : decode cX6_digest 116 = .ok (.iinc 4 1, 3) := by decide +kernel
theorem dX6_digest_119 : decode cX6_digest 119 = .ok (.goto (-26), 3) := by decide +kernel
theorem dX6_digest_122 : decode cX6_digest 122 = .ok (.iinc 3 1, 3) := by decide +kernel
theorem dX6_digest_125 : decode cX6_digest 125 = .ok (.goto (-46), 3) := by decide +kernel
theorem dX6_digest_128 : decode cX6_digest 128 = .ok (.aload_n 0, 1) := by decide +kernel
theorem dX6_digest_129 : decode cX6_digest 129 = .ok (.lload_n 1, 1) := by decide +kernel
theorem dX6_digest_130 : decode cX6_digest 130 = .ok (.bipush 7, 2) := by decide +kernel
theorem dX6_digest_132 : decode cX6_digest 132 = .ok (.invokevirtual 214, 3) := by decide +kernel
theorem dX6_digest_135 : decode cX6_digest 135 = .ok (.lstore_n 1, 1) := by decide +kernel
theorem dX6_digest_136 : decode cX6_digest 136 = .ok (.aload_n 0, 1) := by decide +kernel
theorem dX6_digest_137 : decode cX6_digest 137 = .ok (.lload_n 1, 1) := by decide +kernel
theorem dX6_digest_138 : decode cX6_digest 138 = .ok (.bipush 50, 2) := by decide +kernel
theorem dX6_digest_140 : decode cX6_digest 140 = .ok (.invokevirtual 214, 3) := by decide +kernel
theorem dX6_digest_143 : decode cX6_digest 143 = .ok (.lstore_n 1, 1) := by decide +kernel
theorem dX6_digest_144 : decode cX6_digest 144 = .ok (.lload_n 1, 1) := by decide +kernel
theorem dX6_digest_145 : decode cX6_digest 145 = .ok (.aload_n 0, 1) := by decide +kernel
theorem dX6_digest_146 : decode cX6_digest 146 = .ok (.getfield 10, 3) := by decide +kernel
theorem dX6_digest_149 : decode cX6_digest 149 = .ok (.invokevirtual 191, 3) := by decide +kernel
theorem dX6_digest_152 : decode cX6_digest 152 = .ok (.i2l, 1) := by decide +kernel
theorem dX6_digest_153 : decode cX6_digest 153 = .ok (.invokestatic 203, 3) := by decide +kernel
theorem dX6_digest_156 : decode cX6_digest 156 = .ok (.lstore_n 1, 1) := by decide +kernel
theorem dX6_digest_157 : decode cX6_digest 157 = .ok (.lload_n 1, 1) := by decide +kernel
theorem dX6_digest_158 : decode cX6_digest 158 = .ok (.aload_n 0, 1) := by decide +kernel
theorem dX6_digest_159 : decode cX6_digest 159 = .ok (.getfield 10, 3) := by decide +kernel
theorem dX6_digest_162 : decode cX6_digest 162 = .ok (.invokevirtual 194, 3) := by decide +kernel
theorem dX6_digest_165 : decode cX6_digest 165 = .ok (.i2l, 1) := by decide +kernel
theorem dX6_digest_166 : decode cX6_digest 166 = .ok (.invokestatic 203, 3) := by decide +kernel
theorem dX6_digest_169 : decode cX6_digest 169 = .ok (.lstore_n 1, 1) := by decide +kernel
theorem dX6_digest_170 : decode cX6_digest 170 = .ok (.lload_n 1, 1) := by decide +kernel
theorem dX6_digest_171 : decode cX6_digest 171 = .ok (.aload_n 0, 1) := by decide +kernel
theorem dX6_digest_172 : decode cX6_digest 172 = .ok (.getfield 10, 3) := by decide +kernel
theorem dX6_digest_175 : decode cX6_digest 175 = .ok (.invokevirtual 197, 3) := by decide +kernel
theorem dX6_digest_178 : decode cX6_digest 178 = .ok (.invokestatic 217, 3) := by decide +kernel
theorem dX6_digest_181 : decode cX6_digest 181 = .ok (.invokestatic 203, 3) := by decide +kernel
theorem dX6_digest_184 : decode cX6_digest 184 = .ok (.lstore_n 1, 1) := by decide +kernel
theorem dX6_digest_185 : decode cX6_digest 185 = .ok (.iconst 0, 1) := by decide +kernel
theorem dX6_digest_186 : decode cX6_digest 186 = .ok (.istore_n 3, 1) := by decide +kernel
theorem dX6_digest_187 : decode cX6_digest 187 = .ok (.iload_n 3, 1) := by decide +kernel
theorem dX6_digest_188 : decode cX6_digest 188 = .ok (.iconst 2, 1) := by decide +kernel
theorem dX6_digest_189 : decode cX6_digest 189 = .ok (.if_icmp .ge 28, 3) := by decide +kernel
theorem dX6_digest_192 : decode cX6_digest 192 = .ok (.lload_n 1, 1) := by decide +kernel
theorem dX6_digest_193 : decode cX6_digest 193 = .ok (.aload_n 0, 1) := by decide +kernel
theorem dX6_digest_194 : decode cX6_digest 194 = .ok (.getfield 27, 3) := by decide +kernel
theorem dX6_digest_197 : decode cX6_digest 197 = .ok (.iload_n 3, 1) := by decide +kernel
theorem dX6_digest_198 : decode cX6_digest 198 = .ok (.baload, 1) := by decide +kernel
theorem dX6_digest_199 : decode cX6_digest 199 = .ok (.ifCond .eq 7, 3) := by decide +kernel
theorem dX6_digest_202 : decode cX6_digest 202 = .ok (.lconst 1, 1) := by decide +kernel
theorem dX6_digest_203 : decode cX6_digest 203 = .ok (.goto 4, 3) := by decide +kernel
theorem dX6_digest_206 : decode cX6_digest 206 = .ok (.lconst 0, 1) := by decide +kernel
theorem dX6_digest_207 : decode cX6_digest 207 = .ok (.invokestatic 203, 3) := by decide +kernel
theorem dX6_digest_210 : decode cX6_digest 210 = .ok (.lstore_n 1, 1) := by decide +kernel
theorem dX6_digest_211 : decode cX6_digest 211 = .ok (.iinc 3 1, 3) := by decide +kernel
theorem dX6_digest_214 : decode cX6_digest 214 = .ok (.goto (-27), 3) := by decide +kernel
theorem dX6_digest_217 : decode cX6_digest 217 = .ok (.lload_n 1, 1) := by decide +kernel
theorem dX6_digest_218 : decode cX6_digest 218 = .ok (.aload_n 0, 1) := by decide +kernel
theorem dX6_digest_219 : decode cX6_digest 219 = .ok (.getfield 34, 3) := by decide +kernel
theorem dX6_digest_222 : decode cX6_digest 222 = .ok (.getfield 124, 3) := by decide +kernel
theorem dX6_digest_225 : decode cX6_digest 225 = .ok (.i2l, 1) := by decide +kernel
theorem dX6_digest_226 : decode cX6_digest 226 = .ok (.invokestatic 203, 3) := by decide +kernel
theorem dX6_digest_229 : decode cX6_digest 229 = .ok (.lstore_n 1, 1) := by decide +kernel
theorem dX6_digest_230 : decode cX6_digest 230 = .ok (.iconst 0, 1) := by decide +kernel
theorem dX6_digest_231 : decode cX6_digest 231 = .ok (.istore_n 3, 1) := by decide +kernel
theorem dX6_digest_232 : decode cX6_digest 232 = .ok (.iload_n 3, 1) := by decide +kernel
theorem dX6_digest_233 : decode cX6_digest 233 = .ok (.aload_n 0, 1) := by decide +kernel
theorem dX6_digest_234 : decode cX6_digest 234 = .ok (.getfield 34, 3) := by decide +kernel
theorem dX6_digest_237 : decode cX6_digest 237 = .ok (.getfield 124, 3) := by decide +kernel
theorem dX6_digest_240 : decode cX6_digest 240 = .ok (.if_icmp .ge 23, 3) := by decide +kernel
theorem dX6_digest_243 : decode cX6_digest 243 = .ok (.lload_n 1, 1) := by decide +kernel
theorem dX6_digest_244 : decode cX6_digest 244 = .ok (.aload_n 0, 1) := by decide +kernel
theorem dX6_digest_245 : decode cX6_digest 245 = .ok (.getfield 34, 3) := by decide +kernel
theorem dX6_digest_248 : decode cX6_digest 248 = .ok (.iload_n 3, 1) := by decide +kernel
theorem dX6_digest_249 : decode cX6_digest 249 = .ok (.invokevirtual 221, 3) := by decide +kernel
theorem dX6_digest_252 : decode cX6_digest 252 = .ok (.i2l, 1) := by decide +kernel
theorem dX6_digest_253 : decode cX6_digest 253 = .ok (.invokestatic 203, 3) := by decide +kernel
theorem dX6_digest_256 : decode cX6_digest 256 = .ok (.lstore_n 1, 1) := by decide +kernel
theorem dX6_digest_257 : decode cX6_digest 257 = .ok (.iinc 3 1, 3) := by decide +kernel
theorem dX6_digest_260 : decode cX6_digest 260 = .ok (.goto (-28), 3) := by decide +kernel
theorem dX6_digest_263 : decode cX6_digest 263 = .ok (.lload_n 1, 1) := by decide +kernel
theorem dX6_digest_264 : decode cX6_digest 264 = .ok (.lreturn, 1) := by decide +kernel
theorem dX6_checkPlayer_0 : decode cX6_checkPlayer 0 = .ok (.iload_n 0, 1) := by decide +kernel
theorem dX6_checkPlayer_1 : decode cX6_checkPlayer 1 = .ok (.ifCond .lt 8, 3) := by decide +kernel
theorem dX6_checkPlayer_4 : decode cX6_checkPlayer 4 = .ok (.iload_n 0, 1) := by decide +kernel
theorem dX6_checkPlayer_5 : decode cX6_checkPlayer 5 = .ok (.iconst 4, 1) := by decide +kernel
theorem dX6_checkPlayer_6 : decode cX6_checkPlayer 6 = .ok (.if_icmp .lt 13, 3) := by decide +kernel
theorem dX6_checkPlayer_9 : decode cX6_checkPlayer 9 = .ok (.new 224, 3) := by decide +kernel
theorem dX6_checkPlayer_12 : decode cX6_checkPlayer 12 = .ok (.dup, 1) := by decide +kernel
theorem dX6_checkPlayer_13 : decode cX6_checkPlayer 13 = .ok (.ldc 226, 2) := by decide +kernel
theorem dX6_checkPlayer_15 : decode cX6_checkPlayer 15 = .ok (.invokespecial 228, 3) := by decide +kernel
theorem dX6_checkPlayer_18 : decode cX6_checkPlayer 18 = .ok (.athrow, 1) := by decide +kernel
theorem dX6_checkPlayer_19 : decode cX6_checkPlayer 19 = .ok (.return_, 1) := by decide +kernel
theorem dX6_checkSetting_0 : decode cX6_checkSetting 0 = .ok (.iload_n 0, 1) := by decide +kernel
theorem dX6_checkSetting_1 : decode cX6_checkSetting 1 = .ok (.ifCond .lt 8, 3) := by decide +kernel
theorem dX6_checkSetting_4 : decode cX6_checkSetting 4 = .ok (.iload_n 0, 1) := by decide +kernel
theorem dX6_checkSetting_5 : decode cX6_checkSetting 5 = .ok (.iconst 3, 1) := by decide +kernel
theorem dX6_checkSetting_6 : decode cX6_checkSetting 6 = .ok (.if_icmp .lt 13, 3) := by decide +kernel
theorem dX6_checkSetting_9 : decode cX6_checkSetting 9 = .ok (.new 224, 3) := by decide +kernel
theorem dX6_checkSetting_12 : decode cX6_checkSetting 12 = .ok (.dup, 1) := by decide +kernel
theorem dX6_checkSetting_13 : decode cX6_checkSetting 13 = .ok (.ldc 229, 2) := by decide +kernel
theorem dX6_checkSetting_15 : decode cX6_checkSetting 15 = .ok (.invokespecial 228, 3) := by decide +kernel
theorem dX6_checkSetting_18 : decode cX6_checkSetting 18 = .ok (.athrow, 1) := by decide +kernel
theorem dX6_checkSetting_19 : decode cX6_checkSetting 19 = .ok (.return_, 1) := by decide +kernel
theorem dX6_checkRange_0 : decode cX6_checkRange 0 = .ok (.iload_n 0, 1) := by decide +kernel
theorem dX6_checkRange_1 : decode cX6_checkRange 1 = .ok (.iload_n 1, 1) := by decide +kernel
theorem dX6_checkRange_2 : decode cX6_checkRange 2 = .ok (.if_icmp .lt 8, 3) := by decide +kernel
theorem dX6_checkRange_5 : decode cX6_checkRange 5 = .ok (.iload_n 0, 1) := by decide +kernel
theorem dX6_checkRange_6 : decode cX6_checkRange 6 = .ok (.iload_n 2, 1) := by decide +kernel
theorem dX6_checkRange_7 : decode cX6_checkRange 7 = .ok (.if_icmp .le 13, 3) := by decide +kernel
theorem dX6_checkRange_10 : decode cX6_checkRange 10 = .ok (.new 133, 3) := by decide +kernel
theorem dX6_checkRange_13 : decode cX6_checkRange 13 = .ok (.dup, 1) := by decide +kernel
theorem dX6_checkRange_14 : decode cX6_checkRange 14 = .ok (.ldc 231, 2) := by decide +kernel
theorem dX6_checkRange_16 : decode cX6_checkRange 16 = .ok (.invokespecial 137, 3) := by decide +kernel
theorem dX6_checkRange_19 : decode cX6_checkRange 19 = .ok (.athrow, 1) := by decide +kernel
theorem dX6_checkRange_20 : decode cX6_checkRange 20 = .ok (.return_, 1) := by decide +kernel
theorem dX6_doOrder_0 : decode cX6_doOrder 0 = .ok (.aload_n 0, 1) := by decide +kernel
theorem dX6_doOrder_1 : decode cX6_doOrder 1 = .ok (.getfield 34, 3) := by decide +kernel
theorem dX6_doOrder_4 : decode cX6_doOrder 4 = .ok (.iload_n 1, 1) := by decide +kernel
theorem dX6_doOrder_5 : decode cX6_doOrder 5 = .ok (.invokevirtual 221, 3) := by decide +kernel
theorem dX6_doOrder_8 : decode cX6_doOrder 8 = .ok (.lookupswitch 102 #[(99, 28), (109, 65)], 28) := by decide +kernel
theorem dX6_doOrder_36 : decode cX6_doOrder 36 = .ok (.aload_n 0, 1) := by decide +kernel
theorem dX6_doOrder_37 : decode cX6_doOrder 37 = .ok (.getfield 10, 3) := by decide +kernel
theorem dX6_doOrder_40 : decode cX6_doOrder 40 = .ok (.aload_n 0, 1) := by decide +kernel
theorem dX6_doOrder_41 : decode cX6_doOrder 41 = .ok (.getfield 34, 3) := by decide +kernel
theorem dX6_doOrder_44 : decode cX6_doOrder 44 = .ok (.iload_n 1, 1) := by decide +kernel
theorem dX6_doOrder_45 : decode cX6_doOrder 45 = .ok (.iconst 1, 1) := by decide +kernel
theorem dX6_doOrder_46 : decode cX6_doOrder 46 = .ok (.iadd, 1) := by decide +kernel
theorem dX6_doOrder_47 : decode cX6_doOrder 47 = .ok (.invokevirtual 233, 3) := by decide +kernel
theorem dX6_doOrder_50 : decode cX6_doOrder 50 = .ok (.aload_n 0, 1) := by decide +kernel
theorem dX6_doOrder_51 : decode cX6_doOrder 51 = .ok (.getfield 34, 3) := by decide +kernel
theorem dX6_doOrder_54 : decode cX6_doOrder 54 = .ok (.iload_n 1, 1) := by decide +kernel
theorem dX6_doOrder_55 : decode cX6_doOrder 55 = .ok (.iconst 3, 1) := by decide +kernel
theorem dX6_doOrder_56 : decode cX6_doOrder 56 = .ok (.iadd, 1) := by decide +kernel
theorem dX6_doOrder_57 : decode cX6_doOrder 57 = .ok (.invokevirtual 233, 3) := by decide +kernel
theorem dX6_doOrder_60 : decode cX6_doOrder 60 = .ok (.invokevirtual 57, 3) := by decide +kernel
theorem dX6_doOrder_63 : decode cX6_doOrder 63 = .ok (.iconst (-1), 1) := by decide +kernel
theorem dX6_doOrder_64 : decode cX6_doOrder 64 = .ok (.if_icmp .eq 7, 3) := by decide +kernel
theorem dX6_doOrder_67 : decode cX6_doOrder 67 = .ok (.iconst 1, 1) := by decide +kernel
theorem dX6_doOrder_68 : decode cX6_doOrder 68 = .ok (.goto 4, 3) := by decide +kernel
theorem dX6_doOrder_71 : decode cX6_doOrder 71 = .ok (.iconst 0, 1) := by decide +kernel
theorem dX6_doOrder_72 : decode cX6_doOrder 72 = .ok (.ireturn, 1) := by decide +kernel
theorem dX6_doOrder_73 : decode cX6_doOrder 73 = .ok (.aload_n 0, 1) := by decide +kernel
theorem dX6_doOrder_74 : decode cX6_doOrder 74 = .ok (.getfield 10, 3) := by decide +kernel
theorem dX6_doOrder_77 : decode cX6_doOrder 77 = .ok (.aload_n 0, 1) := by decide +kernel
theorem dX6_doOrder_78 : decode cX6_doOrder 78 = .ok (.getfield 34, 3) := by decide +kernel
theorem dX6_doOrder_81 : decode cX6_doOrder 81 = .ok (.iload_n 1, 1) := by decide +kernel
theorem dX6_doOrder_82 : decode cX6_doOrder 82 = .ok (.iconst 1, 1) := by decide +kernel
theorem dX6_doOrder_83 : decode cX6_doOrder 83 = .ok (.iadd, 1) := by decide +kernel
theorem dX6_doOrder_84 : decode cX6_doOrder 84 = .ok (.invokevirtual 233, 3) := by decide +kernel
theorem dX6_doOrder_87 : decode cX6_doOrder 87 = .ok (.aload_n 0, 1) := by decide +kernel
theorem dX6_doOrder_88 : decode cX6_doOrder 88 = .ok (.getfield 34, 3) := by decide +kernel
theorem dX6_doOrder_91 : decode cX6_doOrder 91 = .ok (.iload_n 1, 1) := by decide +kernel
theorem dX6_doOrder_92 : decode cX6_doOrder 92 = .ok (.iconst 2, 1) := by decide +kernel
theorem dX6_doOrder_93 : decode cX6_doOrder 93 = .ok (.iadd, 1) := by decide +kernel
theorem dX6_doOrder_94 : decode cX6_doOrder 94 = .ok (.invokevirtual 236, 3) := by decide +kernel
theorem dX6_doOrder_97 : decode cX6_doOrder 97 = .ok (.invokevirtual 61, 3) := by decide +kernel
theorem dX6_doOrder_100 : decode cX6_doOrder 100 = .ok (.iconst (-1), 1) := by decide +kernel
theorem dX6_doOrder_101 : decode cX6_doOrder 101 = .ok (.if_icmp .eq 7, 3) := by decide +kernel
theorem dX6_doOrder_104 : decode cX6_doOrder 104 = .ok (.iconst 1, 1) := by decide +kernel
theorem dX6_doOrder_105 : decode cX6_doOrder 105 = .ok (.goto 4, 3) := by decide +kernel
theorem dX6_doOrder_108 : decode cX6_doOrder 108 = .ok (.iconst 0, 1) := by decide +kernel
theorem dX6_doOrder_109 : decode cX6_doOrder 109 = .ok (.ireturn, 1) := by decide +kernel
theorem dX6_doOrder_110 : decode cX6_doOrder 110 = .ok (.aload_n 0, 1) := by decide +kernel
theorem dX6_doOrder_111 : decode cX6_doOrder 111 = .ok (.getfield 34, 3) := by decide +kernel
theorem dX6_doOrder_114 : decode cX6_doOrder 114 = .ok (.iload_n 1, 1) := by decide +kernel
theorem dX6_doOrder_115 : decode cX6_doOrder 115 = .ok (.iconst 1, 1) := by decide +kernel
theorem dX6_doOrder_116 : decode cX6_doOrder 116 = .ok (.iadd, 1) := by decide +kernel
theorem dX6_doOrder_117 : decode cX6_doOrder 117 = .ok (.invokevirtual 239, 3) := by decide +kernel
theorem dX6_doOrder_120 : decode cX6_doOrder 120 = .ok (.istore_n 2, 1) := by decide +kernel
theorem dX6_doOrder_121 : decode cX6_doOrder 121 = .ok (.aload_n 0, 1) := by decide +kernel
theorem dX6_doOrder_122 : decode cX6_doOrder 122 = .ok (.getfield 10, 3) := by decide +kernel
theorem dX6_doOrder_125 : decode cX6_doOrder 125 = .ok (.iload_n 2, 1) := by decide +kernel
theorem dX6_doOrder_126 : decode cX6_doOrder 126 = .ok (.invokevirtual 105, 3) := by decide +kernel
theorem dX6_doOrder_129 : decode cX6_doOrder 129 = .ok (.ifCond .ne 5, 3) := by decide +kernel
theorem dX6_doOrder_132 : decode cX6_doOrder 132 = .ok (.iconst 0, 1) := by decide +kernel
theorem dX6_doOrder_133 : decode cX6_doOrder 133 = .ok (.ireturn, 1) := by decide +kernel
theorem dX6_doOrder_134 : decode cX6_doOrder 134 = .ok (.aload_n 0, 1) := by decide +kernel
theorem dX6_doOrder_135 : decode cX6_doOrder 135 = .ok (.getfield 10, 3) := by decide +kernel
theorem dX6_doOrder_138 : decode cX6_doOrder 138 = .ok (.iload_n 2, 1) := by decide +kernel
theorem dX6_doOrder_139 : decode cX6_doOrder 139 = .ok (.invokevirtual 111, 3) := by decide +kernel
theorem dX6_doOrder_142 : decode cX6_doOrder 142 = .ok (.pop, 1) := by decide +kernel
theorem dX6_doOrder_143 : decode cX6_doOrder 143 = .ok (.iconst 1, 1) := by decide +kernel
theorem dX6_doOrder_144 : decode cX6_doOrder 144 = .ok (.ireturn, 1) := by decide +kernel
theorem dX6_countNumber_0 : decode cX6_countNumber 0 = .ok (.iload_n 1, 1) := by decide +kernel
theorem dX6_countNumber_1 : decode cX6_countNumber 1 = .ok (.bipush 11, 2) := by decide +kernel
theorem dX6_countNumber_3 : decode cX6_countNumber 3 = .ok (.if_icmp .ne 13, 3) := by decide +kernel
theorem dX6_countNumber_6 : decode cX6_countNumber 6 = .ok (.aload_n 0, 1) := by decide +kernel
theorem dX6_countNumber_7 : decode cX6_countNumber 7 = .ok (.getfield 19, 3) := by decide +kernel
theorem dX6_countNumber_10 : decode cX6_countNumber 10 = .ok (.getfield 152, 3) := by decide +kernel
theorem dX6_countNumber_13 : decode cX6_countNumber 13 = .ok (.goto 11, 3) := by decide +kernel
theorem dX6_countNumber_16 : decode cX6_countNumber 16 = .ok (.aload_n 0, 1) := by decide +kernel
theorem dX6_countNumber_17 : decode cX6_countNumber 17 = .ok (.getfield 10, 3) := by decide +kernel
theorem dX6_countNumber_20 : decode cX6_countNumber 20 = .ok (.iload_n 1, 1) := by decide +kernel
theorem dX6_countNumber_21 : decode cX6_countNumber 21 = .ok (.invokevirtual 242, 3) := by decide +kernel
theorem dX6_countNumber_24 : decode cX6_countNumber 24 = .ok (.ireturn, 1) := by decide +kernel
theorem dX6_ballNumber_0 : decode cX6_ballNumber 0 = .ok (.iload_n 2, 1) := by decide +kernel
theorem dX6_ballNumber_1 : decode cX6_ballNumber 1 = .ok (.iconst 1, 1) := by decide +kernel
theorem dX6_ballNumber_2 : decode cX6_ballNumber 2 = .ok (.if_icmp .ne 22, 3) := by decide +kernel
theorem dX6_ballNumber_5 : decode cX6_ballNumber 5 = .ok (.aload_n 0, 1) := by decide +kernel
theorem dX6_ballNumber_6 : decode cX6_ballNumber 6 = .ok (.getfield 10, 3) := by decide +kernel
theorem dX6_ballNumber_9 : decode cX6_ballNumber 9 = .ok (.getfield 68, 3) := by decide +kernel
theorem dX6_ballNumber_12 : decode cX6_ballNumber 12 = .ok (.iload_n 1, 1) := by decide +kernel
theorem dX6_ballNumber_13 : decode cX6_ballNumber 13 = .ok (.aload_n 0, 1) := by decide +kernel
theorem dX6_ballNumber_14 : decode cX6_ballNumber 14 = .ok (.getfield 10, 3) := by decide +kernel
theorem dX6_ballNumber_17 : decode cX6_ballNumber 17 = .ok (.invokevirtual 64, 3) := by decide +kernel
theorem dX6_ballNumber_20 : decode cX6_ballNumber 20 = .ok (.invokevirtual 245, 3) := by decide +kernel
theorem dX6_ballNumber_23 : decode cX6_ballNumber 23 = .ok (.ireturn, 1) := by decide +kernel
theorem dX6_ballNumber_24 : decode cX6_ballNumber 24 = .ok (.aload_n 0, 1) := by decide +kernel
theorem dX6_ballNumber_25 : decode cX6_ballNumber 25 = .ok (.getfield 41, 3) := by decide +kernel
theorem dX6_ballNumber_28 : decode cX6_ballNumber 28 = .ok (.aload_n 0, 1) := by decide +kernel
theorem dX6_ballNumber_29 : decode cX6_ballNumber 29 = .ok (.getfield 10, 3) := by decide +kernel
theorem dX6_ballNumber_32 : decode cX6_ballNumber 32 = .ok (.getfield 68, 3) := by decide +kernel
theorem dX6_ballNumber_35 : decode cX6_ballNumber 35 = .ok (.invokevirtual 248, 3) := by decide +kernel
theorem dX6_ballNumber_38 : decode cX6_ballNumber 38 = .ok (.iconst 0, 1) := by decide +kernel
theorem dX6_ballNumber_39 : decode cX6_ballNumber 39 = .ok (.istore_n 3, 1) := by decide +kernel
theorem dX6_ballNumber_40 : decode cX6_ballNumber 40 = .ok (.iload_n 3, 1) := by decide +kernel
theorem dX6_ballNumber_41 : decode cX6_ballNumber 41 = .ok (.iload_n 1, 1) := by decide +kernel
theorem dX6_ballNumber_42 : decode cX6_ballNumber 42 = .ok (.if_icmp .ge 23, 3) := by decide +kernel
theorem dX6_ballNumber_45 : decode cX6_ballNumber 45 = .ok (.aload_n 0, 1) := by decide +kernel
theorem dX6_ballNumber_46 : decode cX6_ballNumber 46 = .ok (.getfield 41, 3) := by decide +kernel
theorem dX6_ballNumber_49 : decode cX6_ballNumber 49 = .ok (.aload_n 0, 1) := by decide +kernel
theorem dX6_ballNumber_50 : decode cX6_ballNumber 50 = .ok (.getfield 10, 3) := by decide +kernel
theorem dX6_ballNumber_53 : decode cX6_ballNumber 53 = .ok (.invokevirtual 64, 3) := by decide +kernel
theorem dX6_ballNumber_56 : decode cX6_ballNumber 56 = .ok (.invokevirtual 251, 3) := by decide +kernel
theorem dX6_ballNumber_59 : decode cX6_ballNumber 59 = .ok (.iinc 3 1, 3) := by decide +kernel
theorem dX6_ballNumber_62 : decode cX6_ballNumber 62 = .ok (.goto (-22), 3) := by decide +kernel
theorem dX6_ballNumber_65 : decode cX6_ballNumber 65 = .ok (.iload_n 2, 1) := by decide +kernel
theorem dX6_ballNumber_66 : decode cX6_ballNumber 66 = .ok (.ifCond .ne 13, 3) := by decide +kernel
theorem dX6_ballNumber_69 : decode cX6_ballNumber 69 = .ok (.aload_n 0, 1) := by decide +kernel
theorem dX6_ballNumber_70 : decode cX6_ballNumber 70 = .ok (.getfield 41, 3) := by decide +kernel
theorem dX6_ballNumber_73 : decode cX6_ballNumber 73 = .ok (.getfield 71, 3) := by decide +kernel
theorem dX6_ballNumber_76 : decode cX6_ballNumber 76 = .ok (.goto 10, 3) := by decide +kernel
theorem dX6_ballNumber_79 : decode cX6_ballNumber 79 = .ok (.aload_n 0, 1) := by decide +kernel
theorem dX6_ballNumber_80 : decode cX6_ballNumber 80 = .ok (.getfield 41, 3) := by decide +kernel
theorem dX6_ballNumber_83 : decode cX6_ballNumber 83 = .ok (.invokevirtual 254, 3) := by decide +kernel
theorem dX6_ballNumber_86 : decode cX6_ballNumber 86 = .ok (.ireturn, 1) := by decide +kernel
theorem dX6_mixed_0 : decode cX6_mixed 0 = .ok (.ldc2_w 257, 3) := by decide +kernel
theorem dX6_mixed_3 : decode cX6_mixed 3 = .ok (.lload_n 0, 1) := by decide +kernel
theorem dX6_mixed_4 : decode cX6_mixed 4 = .ok (.lmul, 1) := by decide +kernel
theorem dX6_mixed_5 : decode cX6_mixed 5 = .ok (.lload_n 2, 1) := by decide +kernel
theorem dX6_mixed_6 : decode cX6_mixed 6 = .ok (.ladd, 1) := by decide +kernel
theorem dX6_mixed_7 : decode cX6_mixed 7 = .ok (.lreturn, 1) := by decide +kernel
theorem dX6_mixedWithPlayer_0 : decode cX6_mixedWithPlayer 0 = .ok (.lload_n 1, 1) := by decide +kernel
theorem dX6_mixedWithPlayer_1 : decode cX6_mixedWithPlayer 1 = .ok (.lstore 4, 2) := by decide +kernel
theorem dX6_mixedWithPlayer_3 : decode cX6_mixedWithPlayer 3 = .ok (.iconst 0, 1) := by decide +kernel
theorem dX6_mixedWithPlayer_4 : decode cX6_mixedWithPlayer 4 = .ok (.istore 6, 2) := by decide +kernel
theorem dX6_mixedWithPlayer_6 : decode cX6_mixedWithPlayer 6 = .ok (.iload 6, 2) := by decide +kernel
theorem dX6_mixedWithPlayer_8 : decode cX6_mixedWithPlayer 8 = .ok (.bipush 7, 2) := by decide +kernel
theorem dX6_mixedWithPlayer_10 : decode cX6_mixedWithPlayer 10 = .ok (.if_icmp .ge 27, 3) := by decide +kernel
theorem dX6_mixedWithPlayer_13 : decode cX6_mixedWithPlayer 13 = .ok (.lload 4, 2) := by decide +kernel
theorem dX6_mixedWithPlayer_15 : decode cX6_mixedWithPlayer 15 = .ok (.aload_n 0, 1) := by decide +kernel
theorem dX6_mixedWithPlayer_16 : decode cX6_mixedWithPlayer 16 = .ok (.getfield 10, 3) := by decide +kernel
theorem dX6_mixedWithPlayer_19 : decode cX6_mixedWithPlayer 19 = .ok (.iload_n 3, 1) := by decide +kernel
theorem dX6_mixedWithPlayer_20 : decode cX6_mixedWithPlayer 20 = .ok (.iload 6, 2) := by decide +kernel
theorem dX6_mixedWithPlayer_22 : decode cX6_mixedWithPlayer 22 = .ok (.invokevirtual 160, 3) := by decide +kernel
theorem dX6_mixedWithPlayer_25 : decode cX6_mixedWithPlayer 25 = .ok (.i2l, 1) := by decide +kernel
theorem dX6_mixedWithPlayer_26 : decode cX6_mixedWithPlayer 26 = .ok (.invokestatic 203, 3) := by decide +kernel
theorem dX6_mixedWithPlayer_29 : decode cX6_mixedWithPlayer 29 = .ok (.lstore 4, 2) := by decide +kernel
theorem dX6_mixedWithPlayer_31 : decode cX6_mixedWithPlayer 31 = .ok (.iinc 6 1, 3) := by decide +kernel
theorem dX6_mixedWithPlayer_34 : decode cX6_mixedWithPlayer 34 = .ok (.goto (-28), 3) := by decide +kernel
theorem dX6_mixedWithPlayer_37 : decode cX6_mixedWithPlayer 37 = .ok (.iconst 0, 1) := by decide +kernel
theorem dX6_mixedWithPlayer_38 : decode cX6_mixedWithPlayer 38 = .ok (.istore 6, 2) := by decide +kernel
theorem dX6_mixedWithPlayer_40 : decode cX6_mixedWithPlayer 40 = .ok (.iload 6, 2) := by decide +kernel
theorem dX6_mixedWithPlayer_42 : decode cX6_mixedWithPlayer 42 = .ok (.iconst 2, 1) := by decide +kernel
theorem dX6_mixedWithPlayer_43 : decode cX6_mixedWithPlayer 43 = .ok (.if_icmp .ge 63, 3) := by decide +kernel
theorem dX6_mixedWithPlayer_46 : decode cX6_mixedWithPlayer 46 = .ok (.lload 4, 2) := by decide +kernel
theorem dX6_mixedWithPlayer_48 : decode cX6_mixedWithPlayer 48 = .ok (.aload_n 0, 1) := by decide +kernel
theorem dX6_mixedWithPlayer_49 : decode cX6_mixedWithPlayer 49 = .ok (.getfield 10, 3) := by decide +kernel
theorem dX6_mixedWithPlayer_52 : decode cX6_mixedWithPlayer 52 = .ok (.aload_n 0, 1) := by decide +kernel
theorem dX6_mixedWithPlayer_53 : decode cX6_mixedWithPlayer 53 = .ok (.getfield 10, 3) := by decide +kernel
theorem dX6_mixedWithPlayer_56 : decode cX6_mixedWithPlayer 56 = .ok (.getfield 174, 3) := by decide +kernel
theorem dX6_mixedWithPlayer_59 : decode cX6_mixedWithPlayer 59 = .ok (.iload_n 3, 1) := by decide +kernel
theorem dX6_mixedWithPlayer_60 : decode cX6_mixedWithPlayer 60 = .ok (.aaload, 1) := by decide +kernel
theorem dX6_mixedWithPlayer_61 : decode cX6_mixedWithPlayer 61 = .ok (.getfield 178, 3) := by decide +kernel
theorem dX6_mixedWithPlayer_64 : decode cX6_mixedWithPlayer 64 = .ok (.iload 6, 2) := by decide +kernel
theorem dX6_mixedWithPlayer_66 : decode cX6_mixedWithPlayer 66 = .ok (.invokevirtual 181, 3) := by decide +kernel
theorem dX6_mixedWithPlayer_69 : decode cX6_mixedWithPlayer 69 = .ok (.i2l, 1) := by decide +kernel
theorem dX6_mixedWithPlayer_70 : decode cX6_mixedWithPlayer 70 = .ok (.invokestatic 203, 3) := by decide +kernel
theorem dX6_mixedWithPlayer_73 : decode cX6_mixedWithPlayer 73 = .ok (.lstore 4, 2) := by decide +kernel
theorem dX6_mixedWithPlayer_75 : decode cX6_mixedWithPlayer 75 = .ok (.lload 4, 2) := by decide +kernel
theorem dX6_mixedWithPlayer_77 : decode cX6_mixedWithPlayer 77 = .ok (.aload_n 0, 1) := by decide +kernel
theorem dX6_mixedWithPlayer_78 : decode cX6_mixedWithPlayer 78 = .ok (.getfield 10, 3) := by decide +kernel
theorem dX6_mixedWithPlayer_81 : decode cX6_mixedWithPlayer 81 = .ok (.iload_n 3, 1) := by decide +kernel
theorem dX6_mixedWithPlayer_82 : decode cX6_mixedWithPlayer 82 = .ok (.iload 6, 2) := by decide +kernel
theorem dX6_mixedWithPlayer_84 : decode cX6_mixedWithPlayer 84 = .ok (.invokevirtual 184, 3) := by decide +kernel
theorem dX6_mixedWithPlayer_87 : decode cX6_mixedWithPlayer 87 = .ok (.ifCond .eq 7, 3) := by decide +kernel
theorem dX6_mixedWithPlayer_90 : decode cX6_mixedWithPlayer 90 = .ok (.lconst 1, 1) := by decide +kernel
theorem dX6_mixedWithPlayer_91 : decode cX6_mixedWithPlayer 91 = .ok (.goto 4, 3) := by decide +kernel
theorem dX6_mixedWithPlayer_94 : decode cX6_mixedWithPlayer 94 = .ok (.lconst 0, 1) := by decide +kernel
theorem dX6_mixedWithPlayer_95 : decode cX6_mixedWithPlayer 95 = .ok (.invokestatic 203, 3) := by decide +kernel
theorem dX6_mixedWithPlayer_98 : decode cX6_mixedWithPlayer 98 = .ok (.lstore 4, 2) := by decide +kernel
theorem dX6_mixedWithPlayer_100 : decode cX6_mixedWithPlayer 100 = .ok (.iinc 6 1, 3) := by decide +kernel
theorem dX6_mixedWithPlayer_103 : decode cX6_mixedWithPlayer 103 = .ok (.goto (-63), 3) := by decide +kernel
theorem dX6_mixedWithPlayer_106 : decode cX6_mixedWithPlayer 106 = .ok (.lload 4, 2) := by decide +kernel
theorem dX6_mixedWithPlayer_108 : decode cX6_mixedWithPlayer 108 = .ok (.aload_n 0, 1) := by decide +kernel
theorem dX6_mixedWithPlayer_109 : decode cX6_mixedWithPlayer 109 = .ok (.getfield 10, 3) := by decide +kernel
theorem dX6_mixedWithPlayer_112 : decode cX6_mixedWithPlayer 112 = .ok (.iload_n 3, 1) := by decide +kernel
theorem dX6_mixedWithPlayer_113 : decode cX6_mixedWithPlayer 113 = .ok (.invokevirtual 188, 3) := by decide +kernel
theorem dX6_mixedWithPlayer_116 : decode cX6_mixedWithPlayer 116 = .ok (.i2l, 1) := by decide +kernel
theorem dX6_mixedWithPlayer_117 : decode cX6_mixedWithPlayer 117 = .ok (.invokestatic 203, 3) := by decide +kernel
theorem dX6_mixedWithPlayer_120 : decode cX6_mixedWithPlayer 120 = .ok (.lreturn, 1) := by decide +kernel
theorem dX6_mixedWithBall_0 : decode cX6_mixedWithBall 0 = .ok (.lload_n 1, 1) := by decide +kernel
theorem dX6_mixedWithBall_1 : decode cX6_mixedWithBall 1 = .ok (.lstore 4, 2) := by decide +kernel
theorem dX6_mixedWithBall_3 : decode cX6_mixedWithBall 3 = .ok (.iconst 0, 1) := by decide +kernel
theorem dX6_mixedWithBall_4 : decode cX6_mixedWithBall 4 = .ok (.istore 6, 2) := by decide +kernel
theorem dX6_mixedWithBall_6 : decode cX6_mixedWithBall 6 = .ok (.iload 6, 2) := by decide +kernel
theorem dX6_mixedWithBall_8 : decode cX6_mixedWithBall 8 = .ok (.iconst 3, 1) := by decide +kernel
theorem dX6_mixedWithBall_9 : decode cX6_mixedWithBall 9 = .ok (.if_icmp .ge 24, 3) := by decide +kernel
theorem dX6_mixedWithBall_12 : decode cX6_mixedWithBall 12 = .ok (.lload 4, 2) := by decide +kernel
theorem dX6_mixedWithBall_14 : decode cX6_mixedWithBall 14 = .ok (.aload_n 0, 1) := by decide +kernel
theorem dX6_mixedWithBall_15 : decode cX6_mixedWithBall 15 = .ok (.iload_n 3, 1) := by decide +kernel
theorem dX6_mixedWithBall_16 : decode cX6_mixedWithBall 16 = .ok (.iload 6, 2) := by decide +kernel
theorem dX6_mixedWithBall_18 : decode cX6_mixedWithBall 18 = .ok (.invokevirtual 171, 3) := by decide +kernel
theorem dX6_mixedWithBall_21 : decode cX6_mixedWithBall 21 = .ok (.i2l, 1) := by decide +kernel
theorem dX6_mixedWithBall_22 : decode cX6_mixedWithBall 22 = .ok (.invokestatic 203, 3) := by decide +kernel
theorem dX6_mixedWithBall_25 : decode cX6_mixedWithBall 25 = .ok (.lstore 4, 2) := by decide +kernel
theorem dX6_mixedWithBall_27 : decode cX6_mixedWithBall 27 = .ok (.iinc 6 1, 3) := by decide +kernel
theorem dX6_mixedWithBall_30 : decode cX6_mixedWithBall 30 = .ok (.goto (-24), 3) := by decide +kernel
theorem dX6_mixedWithBall_33 : decode cX6_mixedWithBall 33 = .ok (.lload 4, 2) := by decide +kernel
theorem dX6_mixedWithBall_35 : decode cX6_mixedWithBall 35 = .ok (.lreturn, 1) := by decide +kernel
theorem dX6_bitsOf_0 : decode cX6_bitsOf 0 = .ok (.dload_n 0, 1) := by decide +kernel
theorem dX6_bitsOf_1 : decode cX6_bitsOf 1 = .ok (.dconst 0, 1) := by decide +kernel
theorem dX6_bitsOf_2 : decode cX6_bitsOf 2 = .ok (.dcmp .g, 1) := by decide +kernel
theorem dX6_bitsOf_3 : decode cX6_bitsOf 3 = .ok (.ifCond .gt 5, 3) := by decide +kernel
theorem dX6_bitsOf_6 : decode cX6_bitsOf 6 = .ok (.lconst 0, 1) := by decide +kernel
theorem dX6_bitsOf_7 : decode cX6_bitsOf 7 = .ok (.lreturn, 1) := by decide +kernel
theorem dX6_bitsOf_8 : decode cX6_bitsOf 8 = .ok (.dload_n 0, 1) := by decide +kernel
theorem dX6_bitsOf_9 : decode cX6_bitsOf 9 = .ok (.dstore_n 2, 1) := by decide +kernel
theorem dX6_bitsOf_10 : decode cX6_bitsOf 10 = .ok (.sipush 1023, 3) := by decide +kernel
theorem dX6_bitsOf_13 : decode cX6_bitsOf 13 = .ok (.istore 4, 2) := by decide +kernel
theorem dX6_bitsOf_15 : decode cX6_bitsOf 15 = .ok (.dload_n 2, 1) := by decide +kernel
theorem dX6_bitsOf_16 : decode cX6_bitsOf 16 = .ok (.dconst 1, 1) := by decide +kernel
theorem dX6_bitsOf_17 : decode cX6_bitsOf 17 = .ok (.dcmp .g, 1) := by decide +kernel
theorem dX6_bitsOf_18 : decode cX6_bitsOf 18 = .ok (.ifCond .ge 21, 3) := by decide +kernel
theorem dX6_bitsOf_21 : decode cX6_bitsOf 21 = .ok (.iload 4, 2) := by decide +kernel
theorem dX6_bitsOf_23 : decode cX6_bitsOf 23 = .ok (.iconst 1, 1) := by decide +kernel
theorem dX6_bitsOf_24 : decode cX6_bitsOf 24 = .ok (.if_icmp .le 15, 3) := by decide +kernel
theorem dX6_bitsOf_27 : decode cX6_bitsOf 27 = .ok (.dload_n 2, 1) := by decide +kernel
theorem dX6_bitsOf_28 : decode cX6_bitsOf 28 = .ok (.ldc2_w 259, 3) := by decide +kernel
theorem dX6_bitsOf_31 : decode cX6_bitsOf 31 = .ok (.dmul, 1) := by decide +kernel
theorem dX6_bitsOf_32 : decode cX6_bitsOf 32 = .ok (.dstore_n 2, 1) := by decide +kernel
theorem dX6_bitsOf_33 : decode cX6_bitsOf 33 = .ok (.iinc 4 (-1), 3) := by decide +kernel
theorem dX6_bitsOf_36 : decode cX6_bitsOf 36 = .ok (.goto (-21), 3) := by decide +kernel
theorem dX6_bitsOf_39 : decode cX6_bitsOf 39 = .ok (.dload_n 2, 1) := by decide +kernel
theorem dX6_bitsOf_40 : decode cX6_bitsOf 40 = .ok (.dconst 1, 1) := by decide +kernel
theorem dX6_bitsOf_41 : decode cX6_bitsOf 41 = .ok (.dsub, 1) := by decide +kernel
theorem dX6_bitsOf_42 : decode cX6_bitsOf 42 = .ok (.ldc2_w 261, 3) := by decide +kernel
theorem dX6_bitsOf_45 : decode cX6_bitsOf 45 = .ok (.dmul, 1) := by decide +kernel
theorem dX6_bitsOf_46 : decode cX6_bitsOf 46 = .ok (.d2l, 1) := by decide +kernel
theorem dX6_bitsOf_47 : decode cX6_bitsOf 47 = .ok (.lstore 5, 2) := by decide +kernel
theorem dX6_bitsOf_49 : decode cX6_bitsOf 49 = .ok (.iload 4, 2) := by decide +kernel
theorem dX6_bitsOf_51 : decode cX6_bitsOf 51 = .ok (.i2l, 1) := by decide +kernel
theorem dX6_bitsOf_52 : decode cX6_bitsOf 52 = .ok (.bipush 52, 2) := by decide +kernel
theorem dX6_bitsOf_54 : decode cX6_bitsOf 54 = .ok (.lshl, 1) := by decide +kernel
theorem dX6_bitsOf_55 : decode cX6_bitsOf 55 = .ok (.lload 5, 2) := by decide +kernel
theorem dX6_bitsOf_57 : decode cX6_bitsOf 57 = .ok (.lor, 1) := by decide +kernel
theorem dX6_bitsOf_58 : decode cX6_bitsOf 58 = .ok (.lreturn, 1) := by decide +kernel
end
section
theorem dX7_init_0 : decode cX7_init 0 = .ok (.aload_n 0, 1) := by decide +kernel
theorem dX7_init_1 : decode cX7_init 1 = .ok (.invokespecial 1, 3) := by decide +kernel
theorem dX7_init_4 : decode cX7_init 4 = .ok (.aload_n 0, 1) := by decide +kernel
theorem dX7_init_5 : decode cX7_init 5 = .ok (.sipush 154, 3) := by decide +kernel
theorem dX7_init_8 : decode cX7_init 8 = .ok (.newarray .int, 2) := by decide +kernel
theorem dX7_init_10 : decode cX7_init 10 = .ok (.putfield 7, 3) := by decide +kernel
theorem dX7_init_13 : decode cX7_init 13 = .ok (.aload_n 0, 1) := by decide +kernel
theorem dX7_init_14 : decode cX7_init 14 = .ok (.sipush 924, 3) := by decide +kernel
theorem dX7_init_17 : decode cX7_init 17 = .ok (.newarray .int, 2) := by decide +kernel
theorem dX7_init_19 : decode cX7_init 19 = .ok (.putfield 13, 3) := by decide +kernel
theorem dX7_init_22 : decode cX7_init 22 = .ok (.aload_n 0, 1) := by decide +kernel
theorem dX7_init_23 : decode cX7_init 23 = .ok (.sipush 308, 3) := by decide +kernel
theorem dX7_init_26 : decode cX7_init 26 = .ok (.newarray .int, 2) := by decide +kernel
theorem dX7_init_28 : decode cX7_init 28 = .ok (.putfield 16, 3) := by decide +kernel
theorem dX7_init_31 : decode cX7_init 31 = .ok (.aload_n 0, 1) := by decide +kernel
theorem dX7_init_32 : decode cX7_init 32 = .ok (.iconst 2, 1) := by decide +kernel
theorem dX7_init_33 : decode cX7_init 33 = .ok (.newarray .int, 2) := by decide +kernel
theorem dX7_init_35 : decode cX7_init 35 = .ok (.putfield 19, 3) := by decide +kernel
theorem dX7_init_38 : decode cX7_init 38 = .ok (.aload_n 0, 1) := by decide +kernel
theorem dX7_init_39 : decode cX7_init 39 = .ok (.bipush 60, 2) := by decide +kernel
theorem dX7_init_41 : decode cX7_init 41 = .ok (.newarray .int, 2) := by decide +kernel
theorem dX7_init_43 : decode cX7_init 43 = .ok (.putfield 22, 3) := by decide +kernel
theorem dX7_init_46 : decode cX7_init 46 = .ok (.aload_n 0, 1) := by decide +kernel
theorem dX7_init_47 : decode cX7_init 47 = .ok (.getfield 7, 3) := by decide +kernel
theorem dX7_init_50 : decode cX7_init 50 = .ok (.iconst 0, 1) := by decide +kernel
theorem dX7_init_51 : decode cX7_init 51 = .ok (.bipush 12, 2) := by decide +kernel
theorem dX7_init_53 : decode cX7_init 53 = .ok (.iastore, 1) := by decide +kernel
theorem dX7_init_54 : decode cX7_init 54 = .ok (.aload_n 0, 1) := by decide +kernel
theorem dX7_init_55 : decode cX7_init 55 = .ok (.getfield 7, 3) := by decide +kernel
theorem dX7_init_58 : decode cX7_init 58 = .ok (.iconst 1, 1) := by decide +kernel
theorem dX7_init_59 : decode cX7_init 59 = .ok (.iconst 3, 1) := by decide +kernel
theorem dX7_init_60 : decode cX7_init 60 = .ok (.iastore, 1) := by decide +kernel
theorem dX7_init_61 : decode cX7_init 61 = .ok (.aload_n 0, 1) := by decide +kernel
theorem dX7_init_62 : decode cX7_init 62 = .ok (.getfield 7, 3) := by decide +kernel
theorem dX7_init_65 : decode cX7_init 65 = .ok (.iconst 2, 1) := by decide +kernel
theorem dX7_init_66 : decode cX7_init 66 = .ok (.iconst 2, 1) := by decide +kernel
theorem dX7_init_67 : decode cX7_init 67 = .ok (.iastore, 1) := by decide +kernel
theorem dX7_init_68 : decode cX7_init 68 = .ok (.aload_n 0, 1) := by decide +kernel
theorem dX7_init_69 : decode cX7_init 69 = .ok (.getfield 7, 3) := by decide +kernel
theorem dX7_init_72 : decode cX7_init 72 = .ok (.iconst 5, 1) := by decide +kernel
theorem dX7_init_73 : decode cX7_init 73 = .ok (.iconst 1, 1) := by decide +kernel
theorem dX7_init_74 : decode cX7_init 74 = .ok (.iastore, 1) := by decide +kernel
theorem dX7_init_75 : decode cX7_init 75 = .ok (.aload_n 0, 1) := by decide +kernel
theorem dX7_init_76 : decode cX7_init 76 = .ok (.getfield 7, 3) := by decide +kernel
theorem dX7_init_79 : decode cX7_init 79 = .ok (.bipush 6, 2) := by decide +kernel
theorem dX7_init_81 : decode cX7_init 81 = .ok (.iconst 1, 1) := by decide +kernel
theorem dX7_init_82 : decode cX7_init 82 = .ok (.iastore, 1) := by decide +kernel
theorem dX7_init_83 : decode cX7_init 83 = .ok (.iconst 0, 1) := by decide +kernel
theorem dX7_init_84 : decode cX7_init 84 = .ok (.istore_n 1, 1) := by decide +kernel
theorem dX7_init_85 : decode cX7_init 85 = .ok (.iload_n 1, 1) := by decide +kernel
theorem dX7_init_86 : decode cX7_init 86 = .ok (.iconst 4, 1) := by decide +kernel
theorem dX7_init_87 : decode cX7_init 87 = .ok (.if_icmp .ge 28, 3) := by decide +kernel
theorem dX7_init_90 : decode cX7_init 90 = .ok (.aload_n 0, 1) := by decide +kernel
theorem dX7_init_91 : decode cX7_init 91 = .ok (.getfield 7, 3) := by decide +kernel
theorem dX7_init_94 : decode cX7_init 94 = .ok (.bipush 10, 2) := by decide +kernel
theorem dX7_init_96 : decode cX7_init 96 = .ok (.bipush 6, 2) := by decide +kernel
theorem dX7_init_98 : decode cX7_init 98 = .ok (.iload_n 1, 1) := by decide +kernel
theorem dX7_init_99 : decode cX7_init 99 = .ok (.imul, 1) := by decide +kernel
theorem dX7_init_100 : decode cX7_init 100 = .ok (.iadd, 1) := by decide +kernel
theorem dX7_init_101 : decode cX7_init 101 = .ok (.iconst 0, 1) := by decide +kernel
theorem dX7_init_102 : decode cX7_init 102 = .ok (.iadd, 1) := by decide +kernel
theorem dX7_init_103 : decode cX7_init 103 = .ok (.iconst 2, 1) := by decide +kernel
theorem dX7_init_104 : decode cX7_init 104 = .ok (.iload_n 1, 1) := by decide +kernel
theorem dX7_init_105 : decode cX7_init 105 = .ok (.imul, 1) := by decide +kernel
theorem dX7_init_106 : decode cX7_init 106 = .ok (.iconst 2, 1) := by decide +kernel
theorem dX7_init_107 : decode cX7_init 107 = .ok (.iadd, 1) := by decide +kernel
theorem dX7_init_108 : decode cX7_init 108 = .ok (.iastore, 1) := by decide +kernel
theorem dX7_init_109 : decode cX7_init 109 = .ok (.iinc 1 1, 3) := by decide +kernel
theorem dX7_init_112 : decode cX7_init 112 = .ok (.goto (-27), 3) := by decide +kernel
theorem dX7_init_115 : decode cX7_init 115 = .ok (.return_, 1) := by decide +kernel
theorem dX7_thrown_0 : decode cX7_thrown 0 = .ok (.aload_n 0, 1) := by decide +kernel
theorem dX7_thrown_1 : decode cX7_thrown 1 = .ok (.getfield 25, 3) := by decide +kernel
theorem dX7_thrown_4 : decode cX7_thrown 4 = .ok (.ireturn, 1) := by decide +kernel
theorem dX7_fails_0 : decode cX7_fails 0 = .ok (.aload_n 0, 1) := by decide +kernel
theorem dX7_fails_1 : decode cX7_fails 1 = .ok (.iload_n 1, 1) := by decide +kernel
theorem dX7_fails_2 : decode cX7_fails 2 = .ok (.putfield 25, 3) := by decide +kernel
theorem dX7_fails_5 : decode cX7_fails 5 = .ok (.iconst 0, 1) := by decide +kernel
theorem dX7_fails_6 : decode cX7_fails 6 = .ok (.ireturn, 1) := by decide +kernel
theorem dX7_within_0 : decode cX7_within 0 = .ok (.iload_n 0, 1) := by decide +kernel
theorem dX7_within_1 : decode cX7_within 1 = .ok (.iload_n 1, 1) := by decide +kernel
theorem dX7_within_2 : decode cX7_within 2 = .ok (.if_icmp .lt 12, 3) := by decide +kernel
theorem dX7_within_5 : decode cX7_within 5 = .ok (.iload_n 0, 1) := by decide +kernel
theorem dX7_within_6 : decode cX7_within 6 = .ok (.iload_n 2, 1) := by decide +kernel
theorem dX7_within_7 : decode cX7_within 7 = .ok (.if_icmp .gt 7, 3) := by decide +kernel
theorem dX7_within_10 : decode cX7_within 10 = .ok (.iconst 1, 1) := by decide +kernel
theorem dX7_within_11 : decode cX7_within 11 = .ok (.goto 4, 3) := by decide +kernel
theorem dX7_within_14 : decode cX7_within 14 = .ok (.iconst 0, 1) := by decide +kernel
theorem dX7_within_15 : decode cX7_within 15 = .ok (.ireturn, 1) := by decide +kernel
theorem dX7_isPlayer_0 : decode cX7_isPlayer 0 = .ok (.iload_n 0, 1) := by decide +kernel
theorem dX7_isPlayer_1 : decode cX7_isPlayer 1 = .ok (.iconst 0, 1) := by decide +kernel
theorem dX7_isPlayer_2 : decode cX7_isPlayer 2 = .ok (.iconst 3, 1) := by decide +kernel
theorem dX7_isPlayer_3 : decode cX7_isPlayer 3 = .ok (.invokestatic 29, 3) := by decide +kernel
theorem dX7_isPlayer_6 : decode cX7_isPlayer 6 = .ok (.ireturn, 1) := by decide +kernel
theorem dX7_ofPlayer_0 : decode cX7_ofPlayer 0 = .ok (.aload_n 0, 1) := by decide +kernel
theorem dX7_ofPlayer_1 : decode cX7_ofPlayer 1 = .ok (.getfield 7, 3) := by decide +kernel
theorem dX7_ofPlayer_4 : decode cX7_ofPlayer 4 = .ok (.bipush 10, 2) := by decide +kernel
theorem dX7_ofPlayer_6 : decode cX7_ofPlayer 6 = .ok (.bipush 6, 2) := by decide +kernel
theorem dX7_ofPlayer_8 : decode cX7_ofPlayer 8 = .ok (.iload_n 1, 1) := by decide +kernel
theorem dX7_ofPlayer_9 : decode cX7_ofPlayer 9 = .ok (.imul, 1) := by decide +kernel
theorem dX7_ofPlayer_10 : decode cX7_ofPlayer 10 = .ok (.iadd, 1) := by decide +kernel
theorem dX7_ofPlayer_11 : decode cX7_ofPlayer 11 = .ok (.iload_n 2, 1) := by decide +kernel
theorem dX7_ofPlayer_12 : decode cX7_ofPlayer 12 = .ok (.iadd, 1) := by decide +kernel
theorem dX7_ofPlayer_13 : decode cX7_ofPlayer 13 = .ok (.iaload, 1) := by decide +kernel
theorem dX7_ofPlayer_14 : decode cX7_ofPlayer 14 = .ok (.ireturn, 1) := by decide +kernel
theorem dX7_ofEcho_0 : decode cX7_ofEcho 0 = .ok (.aload_n 0, 1) := by decide +kernel
theorem dX7_ofEcho_1 : decode cX7_ofEcho 1 = .ok (.getfield 7, 3) := by decide +kernel
theorem dX7_ofEcho_4 : decode cX7_ofEcho 4 = .ok (.bipush 34, 2) := by decide +kernel
theorem dX7_ofEcho_6 : decode cX7_ofEcho 6 = .ok (.iconst 5, 1) := by decide +kernel
theorem dX7_ofEcho_7 : decode cX7_ofEcho 7 = .ok (.iload_n 1, 1) := by decide +kernel
theorem dX7_ofEcho_8 : decode cX7_ofEcho 8 = .ok (.imul, 1) := by decide +kernel
theorem dX7_ofEcho_9 : decode cX7_ofEcho 9 = .ok (.iadd, 1) := by decide +kernel
theorem dX7_ofEcho_10 : decode cX7_ofEcho 10 = .ok (.iload_n 2, 1) := by decide +kernel
theorem dX7_ofEcho_11 : decode cX7_ofEcho 11 = .ok (.iadd, 1) := by decide +kernel
theorem dX7_ofEcho_12 : decode cX7_ofEcho 12 = .ok (.iaload, 1) := by decide +kernel
theorem dX7_ofEcho_13 : decode cX7_ofEcho 13 = .ok (.ireturn, 1) := by decide +kernel
theorem dX7_sum_0 : decode cX7_sum 0 = .ok (.iconst 0, 1) := by decide +kernel
theorem dX7_sum_1 : decode cX7_sum 1 = .ok (.istore_n 2, 1) := by decide +kernel
theorem dX7_sum_2 : decode cX7_sum 2 = .ok (.iconst 0, 1) := by decide +kernel
theorem dX7_sum_3 : decode cX7_sum 3 = .ok (.istore_n 3, 1) := by decide +kernel
theorem dX7_sum_4 : decode cX7_sum 4 = .ok (.iload_n 3, 1) := by decide +kernel
theorem dX7_sum_5 : decode cX7_sum 5 = .ok (.iconst 4, 1) := by decide +kernel
theorem dX7_sum_6 : decode cX7_sum 6 = .ok (.if_icmp .ge 18, 3) := by decide +kernel
theorem dX7_sum_9 : decode cX7_sum 9 = .ok (.iload_n 2, 1) := by decide +kernel
theorem dX7_sum_10 : decode cX7_sum 10 = .ok (.aload_n 0, 1) := by decide +kernel
theorem dX7_sum_11 : decode cX7_sum 11 = .ok (.iload_n 3, 1) := by decide +kernel
theorem dX7_sum_12 : decode cX7_sum 12 = .ok (.iload_n 1, 1) := by decide +kernel
theorem dX7_sum_13 : decode cX7_sum 13 = .ok (.invokevirtual 33, 3) := by decide +kernel
theorem dX7_sum_16 : decode cX7_sum 16 = .ok (.iadd, 1) := by decide +kernel
theorem dX7_sum_17 : decode cX7_sum 17 = .ok (.istore_n 2, 1) := by decide +kernel
theorem dX7_sum_18 : decode cX7_sum 18 = .ok (.iinc 3 1, 3) := by decide +kernel
theorem dX7_sum_21 : decode cX7_sum 21 = .ok (.goto (-17), 3) := by decide +kernel
theorem dX7_sum_24 : decode cX7_sum 24 = .ok (.iload_n 2, 1) := by decide +kernel
theorem dX7_sum_25 : decode cX7_sum 25 = .ok (.ireturn, 1) := by decide +kernel
theorem dX7_save_0 : decode cX7_save 0 = .ok (.aload_n 0, 1) := by decide +kernel
theorem dX7_save_1 : decode cX7_save 1 = .ok (.getfield 37, 3) := by decide +kernel
theorem dX7_save_4 : decode cX7_save 4 = .ok (.bipush 6, 2) := by decide +kernel
theorem dX7_save_6 : decode cX7_save 6 = .ok (.if_icmp .ne 44, 3) := by decide +kernel
theorem dX7_save_9 : decode cX7_save 9 = .ok (.iconst 0, 1) := by decide +kernel
theorem dX7_save_10 : decode cX7_save 10 = .ok (.istore_n 1, 1) := by decide +kernel
theorem dX7_save_11 : decode cX7_save 11 = .ok (.iload_n 1, 1) := by decide +kernel
theorem dX7_save_12 : decode cX7_save 12 = .ok (.sipush 770, 3) := by decide +kernel
theorem dX7_save_15 : decode cX7_save 15 = .ok (.if_icmp .ge 25, 3) := by decide +kernel
theorem dX7_save_18 : decode cX7_save 18 = .ok (.aload_n 0, 1) := by decide +kernel
theorem dX7_save_19 : decode cX7_save 19 = .ok (.getfield 13, 3) := by decide +kernel
theorem dX7_save_22 : decode cX7_save 22 = .ok (.iload_n 1, 1) := by decide +kernel
theorem dX7_save_23 : decode cX7_save 23 = .ok (.aload_n 0, 1) := by decide +kernel
theorem dX7_save_24 : decode cX7_save 24 = .ok (.getfield 13, 3) := by decide +kernel
theorem dX7_save_27 : decode cX7_save 27 = .ok (.iload_n 1, 1) := by decide +kernel
theorem dX7_save_28 : decode cX7_save 28 = .ok (.sipush 154, 3) := by decide +kernel
theorem dX7_save_31 : decode cX7_save 31 = .ok (.iadd, 1) := by decide +kernel
theorem dX7_save_32 : decode cX7_save 32 = .ok (.iaload, 1) := by decide +kernel
theorem dX7_save_33 : decode cX7_save 33 = .ok (.iastore, 1) := by decide +kernel
theorem dX7_save_34 : decode cX7_save 34 = .ok (.iinc 1 1, 3) := by decide +kernel
theorem dX7_save_37 : decode cX7_save 37 = .ok (.goto (-26), 3) := by decide +kernel
theorem dX7_save_40 : decode cX7_save 40 = .ok (.aload_n 0, 1) := by decide +kernel
theorem dX7_save_41 : decode cX7_save 41 = .ok (.dup, 1) := by decide +kernel
theorem dX7_save_42 : decode cX7_save 42 = .ok (.getfield 37, 3) := by decide +kernel
theorem dX7_save_45 : decode cX7_save 45 = .ok (.iconst 1, 1) := by decide +kernel
theorem dX7_save_46 : decode cX7_save 46 = .ok (.isub, 1) := by decide +kernel
theorem dX7_save_47 : decode cX7_save 47 = .ok (.putfield 37, 3) := by decide +kernel
theorem dX7_save_50 : decode cX7_save 50 = .ok (.iconst 0, 1) := by decide +kernel
theorem dX7_save_51 : decode cX7_save 51 = .ok (.istore_n 1, 1) := by decide +kernel
theorem dX7_save_52 : decode cX7_save 52 = .ok (.iload_n 1, 1) := by decide +kernel
theorem dX7_save_53 : decode cX7_save 53 = .ok (.sipush 154, 3) := by decide +kernel
theorem dX7_save_56 : decode cX7_save 56 = .ok (.if_icmp .ge 30, 3) := by decide +kernel
theorem dX7_save_59 : decode cX7_save 59 = .ok (.aload_n 0, 1) := by decide +kernel
theorem dX7_save_60 : decode cX7_save 60 = .ok (.getfield 13, 3) := by decide +kernel
theorem dX7_save_63 : decode cX7_save 63 = .ok (.aload_n 0, 1) := by decide +kernel
theorem dX7_save_64 : decode cX7_save 64 = .ok (.getfield 37, 3) := by decide +kernel
theorem dX7_save_67 : decode cX7_save 67 = .ok (.sipush 154, 3) := by decide +kernel
theorem dX7_save_70 : decode cX7_save 70 = .ok (.imul, 1) := by decide +kernel
theorem dX7_save_71 : decode cX7_save 71 = .ok (.iload_n 1, 1) := by decide +kernel
theorem dX7_save_72 : decode cX7_save 72 = .ok (.iadd, 1) := by decide +kernel
theorem dX7_save_73 : decode cX7_save 73 = .ok (.aload_n 0, 1) := by decide +kernel
theorem dX7_save_74 : decode cX7_save 74 = .ok (.getfield 7, 3) := by decide +kernel
theorem dX7_save_77 : decode cX7_save 77 = .ok (.iload_n 1, 1) := by decide +kernel
theorem dX7_save_78 : decode cX7_save 78 = .ok (.iaload, 1) := by decide +kernel
theorem dX7_save_79 : decode cX7_save 79 = .ok (.iastore, 1) := by decide +kernel
theorem dX7_save_80 : decode cX7_save 80 = .ok (.iinc 1 1, 3) := by decide +kernel
theorem dX7_save_83 : decode cX7_save 83 = .ok (.goto (-31), 3) := by decide +kernel
theorem dX7_save_86 : decode cX7_save 86 = .ok (.aload_n 0, 1) := by decide +kernel
theorem dX7_save_87 : decode cX7_save 87 = .ok (.dup, 1) := by decide +kernel
theorem dX7_save_88 : decode cX7_save 88 = .ok (.getfield 37, 3) := by decide +kernel
theorem dX7_save_91 : decode cX7_save 91 = .ok (.iconst 1, 1) := by decide +kernel
theorem dX7_save_92 : decode cX7_save 92 = .ok (.iadd, 1) := by decide +kernel
theorem dX7_save_93 : decode cX7_save 93 = .ok (.putfield 37, 3) := by decide +kernel
theorem dX7_save_96 : decode cX7_save 96 = .ok (.return_, 1) := by decide +kernel
theorem dX7_undo_0 : decode cX7_undo 0 = .ok (.aload_n 0, 1) := by decide +kernel
theorem dX7_undo_1 : decode cX7_undo 1 = .ok (.iconst 0, 1) := by decide +kernel
theorem dX7_undo_2 : decode cX7_undo 2 = .ok (.putfield 25, 3) := by decide +kernel
theorem dX7_undo_5 : decode cX7_undo 5 = .ok (.aload_n 0, 1) := by decide +kernel
theorem dX7_undo_6 : decode cX7_undo 6 = .ok (.getfield 37, 3) := by decide +kernel
theorem dX7_undo_9 : decode cX7_undo 9 = .ok (.ifCond .ne 9, 3) := by decide +kernel
theorem dX7_undo_12 : decode cX7_undo 12 = .ok (.aload_n 0, 1) := by decide +kernel
theorem dX7_undo_13 : decode cX7_undo 13 = .ok (.iconst 1, 1) := by decide +kernel
theorem dX7_undo_14 : decode cX7_undo 14 = .ok (.invokevirtual 40, 3) := by decide +kernel
theorem dX7_undo_17 : decode cX7_undo 17 = .ok (.ireturn, 1) := by decide +kernel
theorem dX7_undo_18 : decode cX7_undo 18 = .ok (.aload_n 0, 1) := by decide +kernel
theorem dX7_undo_19 : decode cX7_undo 19 = .ok (.dup, 1) := by decide +kernel
theorem dX7_undo_20 : decode cX7_undo 20 = .ok (.getfield 37, 3) := by decide +kernel
theorem dX7_undo_23 : decode cX7_undo 23 = .ok (.iconst 1, 1) := by decide +kernel
theorem dX7_undo_24 : decode cX7_undo 24 = .ok (.isub, 1) := by decide +kernel
theorem dX7_undo_25 : decode cX7_undo 25 = .ok (.putfield 37, 3) := by decide +kernel
theorem dX7_undo_28 : decode cX7_undo 28 = .ok (.iconst 0, 1) := by decide +kernel
theorem dX7_undo_29 : decode cX7_undo 29 = .ok (.istore_n 1, 1) := by decide +kernel
theorem dX7_undo_30 : decode cX7_undo 30 = .ok (.iload_n 1, 1) := by decide +kernel
theorem dX7_undo_31 : decode cX7_undo 31 = .ok (.sipush 154, 3) := by decide +kernel
theorem dX7_undo_34 : decode cX7_undo 34 = .ok (.if_icmp .ge 30, 3) := by decide +kernel
theorem dX7_undo_37 : decode cX7_undo 37 = .ok (.aload_n 0, 1) := by decide +kernel
theorem dX7_undo_38 : decode cX7_undo 38 = .ok (.getfield 7, 3) := by decide +kernel
theorem dX7_undo_41 : decode cX7_undo 41 = .ok (.iload_n 1, 1) := by decide +kernel
theorem dX7_undo_42 : decode cX7_undo 42 = .ok (.aload_n 0, 1) := by decide +kernel
theorem dX7_undo_43 : decode cX7_undo 43 = .ok (.getfield 13, 3) := by decide +kernel
theorem dX7_undo_46 : decode cX7_undo 46 = .ok (.aload_n 0, 1) := by decide +kernel
theorem dX7_undo_47 : decode cX7_undo 47 = .ok (.getfield 37, 3) := by decide +kernel
theorem dX7_undo_50 : decode cX7_undo 50 = .ok (.sipush 154, 3) := by decide +kernel
theorem dX7_undo_53 : decode cX7_undo 53 = .ok (.imul, 1) := by decide +kernel
theorem dX7_undo_54 : decode cX7_undo 54 = .ok (.iload_n 1, 1) := by decide +kernel
theorem dX7_undo_55 : decode cX7_undo 55 = .ok (.iadd, 1) := by decide +kernel
theorem dX7_undo_56 : decode cX7_undo 56 = .ok (.iaload, 1) := by decide +kernel
theorem dX7_undo_57 : decode cX7_undo 57 = .ok (.iastore, 1) := by decide +kernel
theorem dX7_undo_58 : decode cX7_undo 58 = .ok (.iinc 1 1, 3) := by decide +kernel
theorem dX7_undo_61 : decode cX7_undo 61 = .ok (.goto (-31), 3) := by decide +kernel
theorem dX7_undo_64 : decode cX7_undo 64 = .ok (.aload_n 0, 1) := by decide +kernel
theorem dX7_undo_65 : decode cX7_undo 65 = .ok (.getfield 37, 3) := by decide +kernel
theorem dX7_undo_68 : decode cX7_undo 68 = .ok (.ireturn, 1) := by decide +kernel
theorem dX7_keep_0 : decode cX7_keep 0 = .ok (.aload_n 0, 1) := by decide +kernel
theorem dX7_keep_1 : decode cX7_keep 1 = .ok (.iconst 0, 1) := by decide +kernel
theorem dX7_keep_2 : decode cX7_keep 2 = .ok (.putfield 25, 3) := by decide +kernel
theorem dX7_keep_5 : decode cX7_keep 5 = .ok (.iload_n 1, 1) := by decide +kernel
theorem dX7_keep_6 : decode cX7_keep 6 = .ok (.iconst 0, 1) := by decide +kernel
theorem dX7_keep_7 : decode cX7_keep 7 = .ok (.iconst 1, 1) := by decide +kernel
theorem dX7_keep_8 : decode cX7_keep 8 = .ok (.invokestatic 29, 3) := by decide +kernel
theorem dX7_keep_11 : decode cX7_keep 11 = .ok (.ifCond .ne 9, 3) := by decide +kernel
theorem dX7_keep_14 : decode cX7_keep 14 = .ok (.aload_n 0, 1) := by decide +kernel
theorem dX7_keep_15 : decode cX7_keep 15 = .ok (.iconst 1, 1) := by decide +kernel
theorem dX7_keep_16 : decode cX7_keep 16 = .ok (.invokevirtual 40, 3) := by decide +kernel
theorem dX7_keep_19 : decode cX7_keep 19 = .ok (.ireturn, 1) := by decide +kernel
theorem dX7_keep_20 : decode cX7_keep 20 = .ok (.iconst 0, 1) := by decide +kernel
theorem dX7_keep_21 : decode cX7_keep 21 = .ok (.istore_n 2, 1) := by decide +kernel
theorem dX7_keep_22 : decode cX7_keep 22 = .ok (.iload_n 2, 1) := by decide +kernel
theorem dX7_keep_23 : decode cX7_keep 23 = .ok (.sipush 154, 3) := by decide +kernel
theorem dX7_keep_26 : decode cX7_keep 26 = .ok (.if_icmp .ge 27, 3) := by decide +kernel
theorem dX7_keep_29 : decode cX7_keep 29 = .ok (.aload_n 0, 1) := by decide +kernel
theorem dX7_keep_30 : decode cX7_keep 30 = .ok (.getfield 16, 3) := by decide +kernel
theorem dX7_keep_33 : decode cX7_keep 33 = .ok (.sipush 154, 3) := by decide +kernel
theorem dX7_keep_36 : decode cX7_keep 36 = .ok (.iload_n 1, 1) := by decide +kernel
theorem dX7_keep_37 : decode cX7_keep 37 = .ok (.imul, 1) := by decide +kernel
theorem dX7_keep_38 : decode cX7_keep 38 = .ok (.iload_n 2, 1) := by decide +kernel
theorem dX7_keep_39 : decode cX7_keep 39 = .ok (.iadd, 1) := by decide +kernel
theorem dX7_keep_40 : decode cX7_keep 40 = .ok (.aload_n 0, 1) := by decide +kernel
theorem dX7_keep_41 : decode cX7_keep 41 = .ok (.getfield 7, 3) := by decide +kernel
theorem dX7_keep_44 : decode cX7_keep 44 = .ok (.iload_n 2, 1) := by decide +kernel
theorem dX7_keep_45 : decode cX7_keep 45 = .ok (.iaload, 1) := by decide +kernel
theorem dX7_keep_46 : decode cX7_keep 46 = .ok (.iastore, 1) := by decide +kernel
theorem dX7_keep_47 : decode cX7_keep 47 = .ok (.iinc 2 1, 3) := by decide +kernel
theorem dX7_keep_50 : decode cX7_keep 50 = .ok (.goto (-28), 3) := by decide +kernel
theorem dX7_keep_53 : decode cX7_keep 53 = .ok (.aload_n 0, 1) := by decide +kernel
theorem dX7_keep_54 : decode cX7_keep 54 = .ok (.getfield 19, 3) := by decide +kernel
theorem dX7_keep_57 : decode cX7_keep 57 = .ok (.iload_n 1, 1) := by decide +kernel
theorem dX7_keep_58 : decode cX7_keep 58 = .ok (.iconst 1, 1) := by decide +kernel
theorem dX7_keep_59 : decode cX7_keep 59 = .ok (.iastore, 1) := by decide +kernel
theorem dX7_keep_60 : decode cX7_keep 60 = .ok (.aload_n 0, 1) := by decide +kernel
theorem dX7_keep_61 : decode cX7_keep 61 = .ok (.getfield 7, 3) := by decide +kernel
theorem dX7_keep_64 : decode cX7_keep 64 = .ok (.iconst 3, 1) := by decide +kernel
theorem dX7_keep_65 : decode cX7_keep 65 = .ok (.iaload, 1) := by decide +kernel
theorem dX7_keep_66 : decode cX7_keep 66 = .ok (.ireturn, 1) := by decide +kernel
theorem dX7_goBack_0 : decode cX7_goBack 0 = .ok (.aload_n 0, 1) := by decide +kernel
theorem dX7_goBack_1 : decode cX7_goBack 1 = .ok (.iconst 0, 1) := by decide +kernel
theorem dX7_goBack_2 : decode cX7_goBack 2 = .ok (.putfield 25, 3) := by decide +kernel
theorem dX7_goBack_5 : decode cX7_goBack 5 = .ok (.iload_n 1, 1) := by decide +kernel
theorem dX7_goBack_6 : decode cX7_goBack 6 = .ok (.iconst 0, 1) := by decide +kernel
theorem dX7_goBack_7 : decode cX7_goBack 7 = .ok (.iconst 1, 1) := by decide +kernel
theorem dX7_goBack_8 : decode cX7_goBack 8 = .ok (.invokestatic 29, 3) := by decide +kernel
theorem dX7_goBack_11 : decode cX7_goBack 11 = .ok (.ifCond .ne 9, 3) := by decide +kernel
theorem dX7_goBack_14 : decode cX7_goBack 14 = .ok (.aload_n 0, 1) := by decide +kernel
theorem dX7_goBack_15 : decode cX7_goBack 15 = .ok (.iconst 1, 1) := by decide +kernel
theorem dX7_goBack_16 : decode cX7_goBack 16 = .ok (.invokevirtual 40, 3) := by decide +kernel
theorem dX7_goBack_19 : decode cX7_goBack 19 = .ok (.ireturn, 1) := by decide +kernel
theorem dX7_goBack_20 : decode cX7_goBack 20 = .ok (.aload_n 0, 1) := by decide +kernel
theorem dX7_goBack_21 : decode cX7_goBack 21 = .ok (.getfield 19, 3) := by decide +kernel
theorem dX7_goBack_24 : decode cX7_goBack 24 = .ok (.iload_n 1, 1) := by decide +kernel
theorem dX7_goBack_25 : decode cX7_goBack 25 = .ok (.iaload, 1) := by decide +kernel
theorem dX7_goBack_26 : decode cX7_goBack 26 = .ok (.ifCond .ne 9, 3) := by decide +kernel
theorem dX7_goBack_29 : decode cX7_goBack 29 = .ok (.aload_n 0, 1) := by decide +kernel
theorem dX7_goBack_30 : decode cX7_goBack 30 = .ok (.iconst 2, 1) := by decide +kernel
theorem dX7_goBack_31 : decode cX7_goBack 31 = .ok (.invokevirtual 40, 3) := by decide +kernel
theorem dX7_goBack_34 : decode cX7_goBack 34 = .ok (.ireturn, 1) := by decide +kernel
theorem dX7_goBack_35 : decode cX7_goBack 35 = .ok (.aload_n 0, 1) := by decide +kernel
theorem dX7_goBack_36 : decode cX7_goBack 36 = .ok (.invokevirtual 44, 3) := by decide +kernel
theorem dX7_goBack_39 : decode cX7_goBack 39 = .ok (.iconst 0, 1) := by decide +kernel
theorem dX7_goBack_40 : decode cX7_goBack 40 = .ok (.istore_n 2, 1) := by decide +kernel
theorem dX7_goBack_41 : decode cX7_goBack 41 = .ok (.iload_n 2, 1) := by decide +kernel
theorem dX7_goBack_42 : decode cX7_goBack 42 = .ok (.sipush 154, 3) := by decide +kernel
theorem dX7_goBack_45 : decode cX7_goBack 45 = .ok (.if_icmp .ge 27, 3) := by decide +kernel
theorem dX7_goBack_48 : decode cX7_goBack 48 = .ok (.aload_n 0, 1) := by decide +kernel
theorem dX7_goBack_49 : decode cX7_goBack 49 = .ok (.getfield 7, 3) := by decide +kernel
theorem dX7_goBack_52 : decode cX7_goBack 52 = .ok (.iload_n 2, 1) := by decide +kernel
theorem dX7_goBack_53 : decode cX7_goBack 53 = .ok (.aload_n 0, 1) := by decide +kernel
theorem dX7_goBack_54 : decode cX7_goBack 54 = .ok (.getfield 16, 3) := by decide +kernel
theorem dX7_goBack_57 : decode cX7_goBack 57 = .ok (.sipush 154, 3) := by decide +kernel
theorem dX7_goBack_60 : decode cX7_goBack 60 = .ok (.iload_n 1, 1) := by decide +kernel
theorem dX7_goBack_61 : decode cX7_goBack 61 = .ok (.imul, 1) := by decide +kernel
theorem dX7_goBack_62 : decode cX7_goBack 62 = .ok (.iload_n 2, 1) := by decide +kernel
theorem dX7_goBack_63 : decode cX7_goBack 63 = .ok (.iadd, 1) := by decide +kernel
theorem dX7_goBack_64 : decode cX7_goBack 64 = .ok (.iaload, 1) := by decide +kernel
theorem dX7_goBack_65 : decode cX7_goBack 65 = .ok (.iastore, 1) := by decide +kernel
theorem dX7_goBack_66 : decode cX7_goBack 66 = .ok (.iinc 2 1, 3) := by decide +kernel
theorem dX7_goBack_69 : decode cX7_goBack 69 = .ok (.goto (-28), 3) := by decide +kernel
theorem dX7_goBack_72 : decode cX7_goBack 72 = .ok (.aload_n 0, 1) := by decide +kernel
theorem dX7_goBack_73 : decode cX7_goBack 73 = .ok (.getfield 7, 3) := by decide +kernel
theorem dX7_goBack_76 : decode cX7_goBack 76 = .ok (.iconst 3, 1) := by decide +kernel
theorem dX7_goBack_77 : decode cX7_goBack 77 = .ok (.iaload, 1) := by decide +kernel
theorem dX7_goBack_78 : decode cX7_goBack 78 = .ok (.ireturn, 1) := by decide +kernel
theorem dX7_takeBall_0 : decode cX7_takeBall 0 = .ok (.aload_n 0, 1) := by decide +kernel
theorem dX7_takeBall_1 : decode cX7_takeBall 1 = .ok (.aload_n 0, 1) := by decide +kernel
theorem dX7_takeBall_2 : decode cX7_takeBall 2 = .ok (.getfield 7, 3) := by decide +kernel
theorem dX7_takeBall_5 : decode cX7_takeBall 5 = .ok (.iconst 4, 1) := by decide +kernel
theorem dX7_takeBall_6 : decode cX7_takeBall 6 = .ok (.iaload, 1) := by decide +kernel
theorem dX7_takeBall_7 : decode cX7_takeBall 7 = .ok (.putfield 47, 3) := by decide +kernel
theorem dX7_takeBall_10 : decode cX7_takeBall 10 = .ok (.aload_n 0, 1) := by decide +kernel
theorem dX7_takeBall_11 : decode cX7_takeBall 11 = .ok (.aload_n 0, 1) := by decide +kernel
theorem dX7_takeBall_12 : decode cX7_takeBall 12 = .ok (.getfield 7, 3) := by decide +kernel
theorem dX7_takeBall_15 : decode cX7_takeBall 15 = .ok (.bipush 6, 2) := by decide +kernel
theorem dX7_takeBall_17 : decode cX7_takeBall 17 = .ok (.iaload, 1) := by decide +kernel
theorem dX7_takeBall_18 : decode cX7_takeBall 18 = .ok (.iconst 1, 1) := by decide +kernel
theorem dX7_takeBall_19 : decode cX7_takeBall 19 = .ok (.if_icmp .ne 7, 3) := by decide +kernel
theorem dX7_takeBall_22 : decode cX7_takeBall 22 = .ok (.iconst 1, 1) := by decide +kernel
theorem dX7_takeBall_23 : decode cX7_takeBall 23 = .ok (.goto 4, 3) := by decide +kernel
theorem dX7_takeBall_26 : decode cX7_takeBall 26 = .ok (.iconst 0, 1) := by decide +kernel
theorem dX7_takeBall_27 : decode cX7_takeBall 27 = .ok (.putfield 50, 3) := by decide +kernel
theorem dX7_takeBall_30 : decode cX7_takeBall 30 = .ok (.return_, 1) := by decide +kernel
theorem dX7_moveBall_0 : decode cX7_moveBall 0 = .ok (.iconst 0, 1) := by decide +kernel
theorem dX7_moveBall_1 : decode cX7_moveBall 1 = .ok (.istore_n 2, 1) := by decide +kernel
theorem dX7_moveBall_2 : decode cX7_moveBall 2 = .ok (.iload_n 2, 1) := by decide +kernel
theorem dX7_moveBall_3 : decode cX7_moveBall 3 = .ok (.iload_n 1, 1) := by decide +kernel
theorem dX7_moveBall_4 : decode cX7_moveBall 4 = .ok (.if_icmp .ge 74, 3) := by decide +kernel
theorem dX7_moveBall_7 : decode cX7_moveBall 7 = .ok (.aload_n 0, 1) := by decide +kernel
theorem dX7_moveBall_8 : decode cX7_moveBall 8 = .ok (.aload_n 0, 1) := by decide +kernel
theorem dX7_moveBall_9 : decode cX7_moveBall 9 = .ok (.getfield 50, 3) := by decide +kernel
theorem dX7_moveBall_12 : decode cX7_moveBall 12 = .ok (.ifCond .eq 24, 3) := by decide +kernel
theorem dX7_moveBall_15 : decode cX7_moveBall 15 = .ok (.aload_n 0, 1) := by decide +kernel
theorem dX7_moveBall_16 : decode cX7_moveBall 16 = .ok (.getfield 47, 3) := by decide +kernel
theorem dX7_moveBall_19 : decode cX7_moveBall 19 = .ok (.aload_n 0, 1) := by decide +kernel
theorem dX7_moveBall_20 : decode cX7_moveBall 20 = .ok (.getfield 7, 3) := by decide +kernel
theorem dX7_moveBall_23 : decode cX7_moveBall 23 = .ok (.iconst 0, 1) := by decide +kernel
theorem dX7_moveBall_24 : decode cX7_moveBall 24 = .ok (.iaload, 1) := by decide +kernel
theorem dX7_moveBall_25 : decode cX7_moveBall 25 = .ok (.if_icmp .ge 7, 3) := by decide +kernel
theorem dX7_moveBall_28 : decode cX7_moveBall 28 = .ok (.iconst 1, 1) := by decide +kernel
theorem dX7_moveBall_29 : decode cX7_moveBall 29 = .ok (.goto 19, 3) := by decide +kernel
theorem dX7_moveBall_32 : decode cX7_moveBall 32 = .ok (.iconst 0, 1) := by decide +kernel
theorem dX7_moveBall_33 : decode cX7_moveBall 33 = .ok (.goto 15, 3) := by decide +kernel
theorem dX7_moveBall_36 : decode cX7_moveBall 36 = .ok (.aload_n 0, 1) := by decide +kernel
theorem dX7_moveBall_37 : decode cX7_moveBall 37 = .ok (.getfield 47, 3) := by decide +kernel
theorem dX7_moveBall_40 : decode cX7_moveBall 40 = .ok (.ifCond .ne 7, 3) := by decide +kernel
theorem dX7_moveBall_43 : decode cX7_moveBall 43 = .ok (.iconst 1, 1) := by decide +kernel
theorem dX7_moveBall_44 : decode cX7_moveBall 44 = .ok (.goto 4, 3) := by decide +kernel
theorem dX7_moveBall_47 : decode cX7_moveBall 47 = .ok (.iconst 0, 1) := by decide +kernel
theorem dX7_moveBall_48 : decode cX7_moveBall 48 = .ok (.putfield 50, 3) := by decide +kernel
theorem dX7_moveBall_51 : decode cX7_moveBall 51 = .ok (.aload_n 0, 1) := by decide +kernel
theorem dX7_moveBall_52 : decode cX7_moveBall 52 = .ok (.dup, 1) := by decide +kernel
theorem dX7_moveBall_53 : decode cX7_moveBall 53 = .ok (.getfield 47, 3) := by decide +kernel
theorem dX7_moveBall_56 : decode cX7_moveBall 56 = .ok (.aload_n 0, 1) := by decide +kernel
theorem dX7_moveBall_57 : decode cX7_moveBall 57 = .ok (.getfield 50, 3) := by decide +kernel
theorem dX7_moveBall_60 : decode cX7_moveBall 60 = .ok (.ifCond .eq 7, 3) := by decide +kernel
theorem dX7_moveBall_63 : decode cX7_moveBall 63 = .ok (.iconst 1, 1) := by decide +kernel
theorem dX7_moveBall_64 : decode cX7_moveBall 64 = .ok (.goto 4, 3) := by decide +kernel
theorem dX7_moveBall_67 : decode cX7_moveBall 67 = .ok (.iconst (-1), 1) := by decide +kernel
theorem dX7_moveBall_68 : decode cX7_moveBall 68 = .ok (.iadd, 1) := by decide +kernel
theorem dX7_moveBall_69 : decode cX7_moveBall 69 = .ok (.putfield 47, 3) := by decide +kernel
theorem dX7_moveBall_72 : decode cX7_moveBall 72 = .ok (.iinc 2 1, 3) := by decide +kernel
theorem dX7_moveBall_75 : decode cX7_moveBall 75 = .ok (.goto (-73), 3) := by decide +kernel
theorem dX7_moveBall_78 : decode cX7_moveBall 78 = .ok (.return_, 1) := by decide +kernel
theorem dX7_unfolded_0 : decode cX7_unfolded 0 = .ok (.iconst 2, 1) := by decide +kernel
theorem dX7_unfolded_1 : decode cX7_unfolded 1 = .ok (.aload_n 0, 1) := by decide +kernel
theorem dX7_unfolded_2 : decode cX7_unfolded 2 = .ok (.getfield 7, 3) := by decide +kernel
theorem dX7_unfolded_5 : decode cX7_unfolded 5 = .ok (.iconst 0, 1) := by decide +kernel
theorem dX7_unfolded_6 : decode cX7_unfolded 6 = .ok (.iaload, 1) := by decide +kernel
theorem dX7_unfolded_7 : decode cX7_unfolded 7 = .ok (.imul, 1) := by decide +kernel
theorem dX7_unfolded_8 : decode cX7_unfolded 8 = .ok (.istore_n 2, 1) := by decide +kernel
theorem dX7_unfolded_9 : decode cX7_unfolded 9 = .ok (.aload_n 0, 1) := by decide +kernel
theorem dX7_unfolded_10 : decode cX7_unfolded 10 = .ok (.getfield 7, 3) := by decide +kernel
theorem dX7_unfolded_13 : decode cX7_unfolded 13 = .ok (.bipush 6, 2) := by decide +kernel
theorem dX7_unfolded_15 : decode cX7_unfolded 15 = .ok (.iaload, 1) := by decide +kernel
theorem dX7_unfolded_16 : decode cX7_unfolded 16 = .ok (.iconst 1, 1) := by decide +kernel
theorem dX7_unfolded_17 : decode cX7_unfolded 17 = .ok (.if_icmp .ne 12, 3) := by decide +kernel
theorem dX7_unfolded_20 : decode cX7_unfolded 20 = .ok (.aload_n 0, 1) := by decide +kernel
theorem dX7_unfolded_21 : decode cX7_unfolded 21 = .ok (.getfield 7, 3) := by decide +kernel
theorem dX7_unfolded_24 : decode cX7_unfolded 24 = .ok (.iconst 4, 1) := by decide +kernel
theorem dX7_unfolded_25 : decode cX7_unfolded 25 = .ok (.iaload, 1) := by decide +kernel
theorem dX7_unfolded_26 : decode cX7_unfolded 26 = .ok (.goto 11, 3) := by decide +kernel
theorem dX7_unfolded_29 : decode cX7_unfolded 29 = .ok (.iload_n 2, 1) := by decide +kernel
theorem dX7_unfolded_30 : decode cX7_unfolded 30 = .ok (.aload_n 0, 1) := by decide +kernel
theorem dX7_unfolded_31 : decode cX7_unfolded 31 = .ok (.getfield 7, 3) := by decide +kernel
theorem dX7_unfolded_34 : decode cX7_unfolded 34 = .ok (.iconst 4, 1) := by decide +kernel
theorem dX7_unfolded_35 : decode cX7_unfolded 35 = .ok (.iaload, 1) := by decide +kernel
theorem dX7_unfolded_36 : decode cX7_unfolded 36 = .ok (.isub, 1) := by decide +kernel
theorem dX7_unfolded_37 : decode cX7_unfolded 37 = .ok (.istore_n 3, 1) := by decide +kernel
theorem dX7_unfolded_38 : decode cX7_unfolded 38 = .ok (.iload_n 3, 1) := by decide +kernel
theorem dX7_unfolded_39 : decode cX7_unfolded 39 = .ok (.iload_n 1, 1) := by decide +kernel
theorem dX7_unfolded_40 : decode cX7_unfolded 40 = .ok (.iadd, 1) := by decide +kernel
theorem dX7_unfolded_41 : decode cX7_unfolded 41 = .ok (.iload_n 2, 1) := by decide +kernel
theorem dX7_unfolded_42 : decode cX7_unfolded 42 = .ok (.irem, 1) := by decide +kernel
theorem dX7_unfolded_43 : decode cX7_unfolded 43 = .ok (.istore_n 3, 1) := by decide +kernel
theorem dX7_unfolded_44 : decode cX7_unfolded 44 = .ok (.iload_n 3, 1) := by decide +kernel
theorem dX7_unfolded_45 : decode cX7_unfolded 45 = .ok (.aload_n 0, 1) := by decide +kernel
theorem dX7_unfolded_46 : decode cX7_unfolded 46 = .ok (.getfield 7, 3) := by decide +kernel
theorem dX7_unfolded_49 : decode cX7_unfolded 49 = .ok (.iconst 0, 1) := by decide +kernel
theorem dX7_unfolded_50 : decode cX7_unfolded 50 = .ok (.iaload, 1) := by decide +kernel
theorem dX7_unfolded_51 : decode cX7_unfolded 51 = .ok (.if_icmp .gt 7, 3) := by decide +kernel
theorem dX7_unfolded_54 : decode cX7_unfolded 54 = .ok (.iload_n 3, 1) := by decide +kernel
theorem dX7_unfolded_55 : decode cX7_unfolded 55 = .ok (.goto 6, 3) := by decide +kernel
theorem dX7_unfolded_58 : decode cX7_unfolded 58 = .ok (.iload_n 2, 1) := by decide +kernel
theorem dX7_unfolded_59 : decode cX7_unfolded 59 = .ok (.iload_n 3, 1) := by decide +kernel
theorem dX7_unfolded_60 : decode cX7_unfolded 60 = .ok (.isub, 1) := by decide +kernel
theorem dX7_unfolded_61 : decode cX7_unfolded 61 = .ok (.ireturn, 1) := by decide +kernel
theorem dX7_sendOn_0 : decode cX7_sendOn 0 = .ok (.aload_n 0, 1) := by decide +kernel
theorem dX7_sendOn_1 : decode cX7_sendOn 1 = .ok (.getfield 7, 3) := by decide +kernel
theorem dX7_sendOn_4 : decode cX7_sendOn 4 = .ok (.iconst 5, 1) := by decide +kernel
theorem dX7_sendOn_5 : decode cX7_sendOn 5 = .ok (.iaload, 1) := by decide +kernel
theorem dX7_sendOn_6 : decode cX7_sendOn 6 = .ok (.istore_n 2, 1) := by decide +kernel
theorem dX7_sendOn_7 : decode cX7_sendOn 7 = .ok (.iload_n 1, 1) := by decide +kernel
theorem dX7_sendOn_8 : decode cX7_sendOn 8 = .ok (.iconst 3, 1) := by decide +kernel
theorem dX7_sendOn_9 : decode cX7_sendOn 9 = .ok (.irem, 1) := by decide +kernel
theorem dX7_sendOn_10 : decode cX7_sendOn 10 = .ok (.lookupswitch 68 #[(0, 26), (1, 45)], 26) := by decide +kernel
theorem dX7_sendOn_36 : decode cX7_sendOn 36 = .ok (.aload_n 0, 1) := by decide +kernel
theorem dX7_sendOn_37 : decode cX7_sendOn 37 = .ok (.getfield 7, 3) := by decide +kernel
theorem dX7_sendOn_40 : decode cX7_sendOn 40 = .ok (.bipush 6, 2) := by decide +kernel
theorem dX7_sendOn_42 : decode cX7_sendOn 42 = .ok (.iconst 1, 1) := by decide +kernel
theorem dX7_sendOn_43 : decode cX7_sendOn 43 = .ok (.aload_n 0, 1) := by decide +kernel
theorem dX7_sendOn_44 : decode cX7_sendOn 44 = .ok (.getfield 7, 3) := by decide +kernel
theorem dX7_sendOn_47 : decode cX7_sendOn 47 = .ok (.bipush 6, 2) := by decide +kernel
theorem dX7_sendOn_49 : decode cX7_sendOn 49 = .ok (.iaload, 1) := by decide +kernel
theorem dX7_sendOn_50 : decode cX7_sendOn 50 = .ok (.isub, 1) := by decide +kernel
theorem dX7_sendOn_51 : decode cX7_sendOn 51 = .ok (.iastore, 1) := by decide +kernel
theorem dX7_sendOn_52 : decode cX7_sendOn 52 = .ok (.goto 44, 3) := by decide +kernel
theorem dX7_sendOn_55 : decode cX7_sendOn 55 = .ok (.aload_n 0, 1) := by decide +kernel
theorem dX7_sendOn_56 : decode cX7_sendOn 56 = .ok (.getfield 7, 3) := by decide +kernel
theorem dX7_sendOn_59 : decode cX7_sendOn 59 = .ok (.iconst 5, 1) := by decide +kernel
theorem dX7_sendOn_60 : decode cX7_sendOn 60 = .ok (.iload_n 2, 1) := by decide +kernel
theorem dX7_sendOn_61 : decode cX7_sendOn 61 = .ok (.bipush 9, 2) := by decide +kernel
theorem dX7_sendOn_63 : decode cX7_sendOn 63 = .ok (.if_icmp .ge 9, 3) := by decide +kernel
theorem dX7_sendOn_66 : decode cX7_sendOn 66 = .ok (.iload_n 2, 1) := by decide +kernel
theorem dX7_sendOn_67 : decode cX7_sendOn 67 = .ok (.iconst 1, 1) := by decide +kernel
theorem dX7_sendOn_68 : decode cX7_sendOn 68 = .ok (.iadd, 1) := by decide +kernel
theorem dX7_sendOn_69 : decode cX7_sendOn 69 = .ok (.goto 5, 3) := by decide +kernel
theorem dX7_sendOn_72 : decode cX7_sendOn 72 = .ok (.bipush 9, 2) := by decide +kernel
theorem dX7_sendOn_74 : decode cX7_sendOn 74 = .ok (.iastore, 1) := by decide +kernel
theorem dX7_sendOn_75 : decode cX7_sendOn 75 = .ok (.goto 21, 3) := by decide +kernel
theorem dX7_sendOn_78 : decode cX7_sendOn 78 = .ok (.aload_n 0, 1) := by decide +kernel
theorem dX7_sendOn_79 : decode cX7_sendOn 79 = .ok (.getfield 7, 3) := by decide +kernel
theorem dX7_sendOn_82 : decode cX7_sendOn 82 = .ok (.iconst 5, 1) := by decide +kernel
theorem dX7_sendOn_83 : decode cX7_sendOn 83 = .ok (.iload_n 2, 1) := by decide +kernel
theorem dX7_sendOn_84 : decode cX7_sendOn 84 = .ok (.iconst 1, 1) := by decide +kernel
theorem dX7_sendOn_85 : decode cX7_sendOn 85 = .ok (.if_icmp .le 9, 3) := by decide +kernel
theorem dX7_sendOn_88 : decode cX7_sendOn 88 = .ok (.iload_n 2, 1) := by decide +kernel
theorem dX7_sendOn_89 : decode cX7_sendOn 89 = .ok (.iconst 1, 1) := by decide +kernel
theorem dX7_sendOn_90 : decode cX7_sendOn 90 = .ok (.isub, 1) := by decide +kernel
theorem dX7_sendOn_91 : decode cX7_sendOn 91 = .ok (.goto 4, 3) := by decide +kernel
theorem dX7_sendOn_94 : decode cX7_sendOn 94 = .ok (.iconst 1, 1) := by decide +kernel
theorem dX7_sendOn_95 : decode cX7_sendOn 95 = .ok (.iastore, 1) := by decide +kernel
theorem dX7_sendOn_96 : decode cX7_sendOn 96 = .ok (.return_, 1) := by decide +kernel
theorem dX7_delay_0 : decode cX7_delay 0 = .ok (.iconst 2, 1) := by decide +kernel
theorem dX7_delay_1 : decode cX7_delay 1 = .ok (.iload_n 2, 1) := by decide +kernel
theorem dX7_delay_2 : decode cX7_delay 2 = .ok (.ifCond .ne 7, 3) := by decide +kernel
theorem dX7_delay_5 : decode cX7_delay 5 = .ok (.iload_n 1, 1) := by decide +kernel
theorem dX7_delay_6 : decode cX7_delay 6 = .ok (.goto 11, 3) := by decide +kernel
theorem dX7_delay_9 : decode cX7_delay 9 = .ok (.aload_n 0, 1) := by decide +kernel
theorem dX7_delay_10 : decode cX7_delay 10 = .ok (.getfield 7, 3) := by decide +kernel
theorem dX7_delay_13 : decode cX7_delay 13 = .ok (.iconst 0, 1) := by decide +kernel
theorem dX7_delay_14 : decode cX7_delay 14 = .ok (.iaload, 1) := by decide +kernel
theorem dX7_delay_15 : decode cX7_delay 15 = .ok (.iload_n 1, 1) := by decide +kernel
theorem dX7_delay_16 : decode cX7_delay 16 = .ok (.isub, 1) := by decide +kernel
theorem dX7_delay_17 : decode cX7_delay 17 = .ok (.imul, 1) := by decide +kernel
theorem dX7_delay_18 : decode cX7_delay 18 = .ok (.istore_n 3, 1) := by decide +kernel
theorem dX7_delay_19 : decode cX7_delay 19 = .ok (.iload_n 3, 1) := by decide +kernel
theorem dX7_delay_20 : decode cX7_delay 20 = .ok (.aload_n 0, 1) := by decide +kernel
theorem dX7_delay_21 : decode cX7_delay 21 = .ok (.getfield 7, 3) := by decide +kernel
theorem dX7_delay_24 : decode cX7_delay 24 = .ok (.iconst 1, 1) := by decide +kernel
theorem dX7_delay_25 : decode cX7_delay 25 = .ok (.iaload, 1) := by decide +kernel
theorem dX7_delay_26 : decode cX7_delay 26 = .ok (.iadd, 1) := by decide +kernel
theorem dX7_delay_27 : decode cX7_delay 27 = .ok (.iconst 1, 1) := by decide +kernel
theorem dX7_delay_28 : decode cX7_delay 28 = .ok (.isub, 1) := by decide +kernel
theorem dX7_delay_29 : decode cX7_delay 29 = .ok (.aload_n 0, 1) := by decide +kernel
theorem dX7_delay_30 : decode cX7_delay 30 = .ok (.getfield 7, 3) := by decide +kernel
theorem dX7_delay_33 : decode cX7_delay 33 = .ok (.iconst 1, 1) := by decide +kernel
theorem dX7_delay_34 : decode cX7_delay 34 = .ok (.iaload, 1) := by decide +kernel
theorem dX7_delay_35 : decode cX7_delay 35 = .ok (.idiv, 1) := by decide +kernel
theorem dX7_delay_36 : decode cX7_delay 36 = .ok (.aload_n 0, 1) := by decide +kernel
theorem dX7_delay_37 : decode cX7_delay 37 = .ok (.getfield 7, 3) := by decide +kernel
theorem dX7_delay_40 : decode cX7_delay 40 = .ok (.iconst 2, 1) := by decide +kernel
theorem dX7_delay_41 : decode cX7_delay 41 = .ok (.iaload, 1) := by decide +kernel
theorem dX7_delay_42 : decode cX7_delay 42 = .ok (.iadd, 1) := by decide +kernel
theorem dX7_delay_43 : decode cX7_delay 43 = .ok (.istore 4, 2) := by decide +kernel
theorem dX7_delay_45 : decode cX7_delay 45 = .ok (.iload 4, 2) := by decide +kernel
theorem dX7_delay_47 : decode cX7_delay 47 = .ok (.iconst 1, 1) := by decide +kernel
theorem dX7_delay_48 : decode cX7_delay 48 = .ok (.if_icmp .ge 7, 3) := by decide +kernel
theorem dX7_delay_51 : decode cX7_delay 51 = .ok (.iconst 1, 1) := by decide +kernel
theorem dX7_delay_52 : decode cX7_delay 52 = .ok (.goto 5, 3) := by decide +kernel
theorem dX7_delay_55 : decode cX7_delay 55 = .ok (.iload 4, 2) := by decide +kernel
theorem dX7_delay_57 : decode cX7_delay 57 = .ok (.ireturn, 1) := by decide +kernel
theorem dX7_underWay_0 : decode cX7_underWay 0 = .ok (.iconst 0, 1) := by decide +kernel
theorem dX7_underWay_1 : decode cX7_underWay 1 = .ok (.istore_n 2, 1) := by decide +kernel
theorem dX7_underWay_2 : decode cX7_underWay 2 = .ok (.iconst 0, 1) := by decide +kernel
theorem dX7_underWay_3 : decode cX7_underWay 3 = .ok (.istore_n 3, 1) := by decide +kernel
theorem dX7_underWay_4 : decode cX7_underWay 4 = .ok (.iload_n 3, 1) := by decide +kernel
theorem dX7_underWay_5 : decode cX7_underWay 5 = .ok (.aload_n 0, 1) := by decide +kernel
theorem dX7_underWay_6 : decode cX7_underWay 6 = .ok (.getfield 7, 3) := by decide +kernel
theorem dX7_underWay_9 : decode cX7_underWay 9 = .ok (.bipush 9, 2) := by decide +kernel
theorem dX7_underWay_11 : decode cX7_underWay 11 = .ok (.iaload, 1) := by decide +kernel
theorem dX7_underWay_12 : decode cX7_underWay 12 = .ok (.if_icmp .ge 27, 3) := by decide +kernel
theorem dX7_underWay_15 : decode cX7_underWay 15 = .ok (.iload_n 2, 1) := by decide +kernel
theorem dX7_underWay_16 : decode cX7_underWay 16 = .ok (.aload_n 0, 1) := by decide +kernel
theorem dX7_underWay_17 : decode cX7_underWay 17 = .ok (.iload_n 3, 1) := by decide +kernel
theorem dX7_underWay_18 : decode cX7_underWay 18 = .ok (.iconst 0, 1) := by decide +kernel
theorem dX7_underWay_19 : decode cX7_underWay 19 = .ok (.invokevirtual 54, 3) := by decide +kernel
theorem dX7_underWay_22 : decode cX7_underWay 22 = .ok (.iload_n 1, 1) := by decide +kernel
theorem dX7_underWay_23 : decode cX7_underWay 23 = .ok (.if_icmp .ne 7, 3) := by decide +kernel
theorem dX7_underWay_26 : decode cX7_underWay 26 = .ok (.iconst 1, 1) := by decide +kernel
theorem dX7_underWay_27 : decode cX7_underWay 27 = .ok (.goto 4, 3) := by decide +kernel
theorem dX7_underWay_30 : decode cX7_underWay 30 = .ok (.iconst 0, 1) := by decide +kernel
theorem dX7_underWay_31 : decode cX7_underWay 31 = .ok (.iadd, 1) := by decide +kernel
theorem dX7_underWay_32 : decode cX7_underWay 32 = .ok (.istore_n 2, 1) := by decide +kernel
theorem dX7_underWay_33 : decode cX7_underWay 33 = .ok (.iinc 3 1, 3) := by decide +kernel
theorem dX7_underWay_36 : decode cX7_underWay 36 = .ok (.goto (-32), 3) := by decide +kernel
theorem dX7_underWay_39 : decode cX7_underWay 39 = .ok (.iload_n 2, 1) := by decide +kernel
theorem dX7_underWay_40 : decode cX7_underWay 40 = .ok (.ireturn, 1) := by decide +kernel
theorem dX7_comingTo_0 : decode cX7_comingTo 0 = .ok (.iconst 0, 1) := by decide +kernel
theorem dX7_comingTo_1 : decode cX7_comingTo 1 = .ok (.istore_n 3, 1) := by decide +kernel
theorem dX7_comingTo_2 : decode cX7_comingTo 2 = .ok (.iconst 0, 1) := by decide +kernel
theorem dX7_comingTo_3 : decode cX7_comingTo 3 = .ok (.istore 4, 2) := by decide +kernel
theorem dX7_comingTo_5 : decode cX7_comingTo 5 = .ok (.iload 4, 2) := by decide +kernel
theorem dX7_comingTo_7 : decode cX7_comingTo 7 = .ok (.aload_n 0, 1) := by decide +kernel
theorem dX7_comingTo_8 : decode cX7_comingTo 8 = .ok (.getfield 7, 3) := by decide +kernel
theorem dX7_comingTo_11 : decode cX7_comingTo 11 = .ok (.bipush 9, 2) := by decide +kernel
theorem dX7_comingTo_13 : decode cX7_comingTo 13 = .ok (.iaload, 1) := by decide +kernel
theorem dX7_comingTo_14 : decode cX7_comingTo 14 = .ok (.if_icmp .ge 39, 3) := by decide +kernel
theorem dX7_comingTo_17 : decode cX7_comingTo 17 = .ok (.iload_n 3, 1) := by decide +kernel
theorem dX7_comingTo_18 : decode cX7_comingTo 18 = .ok (.aload_n 0, 1) := by decide +kernel
theorem dX7_comingTo_19 : decode cX7_comingTo 19 = .ok (.iload 4, 2) := by decide +kernel
theorem dX7_comingTo_21 : decode cX7_comingTo 21 = .ok (.iconst 1, 1) := by decide +kernel
theorem dX7_comingTo_22 : decode cX7_comingTo 22 = .ok (.invokevirtual 54, 3) := by decide +kernel
theorem dX7_comingTo_25 : decode cX7_comingTo 25 = .ok (.iload_n 1, 1) := by decide +kernel
theorem dX7_comingTo_26 : decode cX7_comingTo 26 = .ok (.if_icmp .ne 18, 3) := by decide +kernel
theorem dX7_comingTo_29 : decode cX7_comingTo 29 = .ok (.aload_n 0, 1) := by decide +kernel
theorem dX7_comingTo_30 : decode cX7_comingTo 30 = .ok (.iload 4, 2) := by decide +kernel
theorem dX7_comingTo_32 : decode cX7_comingTo 32 = .ok (.iconst 3, 1) := by decide +kernel
theorem dX7_comingTo_33 : decode cX7_comingTo 33 = .ok (.invokevirtual 54, 3) := by decide +kernel
theorem dX7_comingTo_36 : decode cX7_comingTo 36 = .ok (.iload_n 2, 1) := by decide +kernel
theorem dX7_comingTo_37 : decode cX7_comingTo 37 = .ok (.if_icmp .ne 7, 3) := by decide +kernel
theorem dX7_comingTo_40 : decode cX7_comingTo 40 = .ok (.iconst 1, 1) := by decide +kernel
theorem dX7_comingTo_41 : decode cX7_comingTo 41 = .ok (.goto 4, 3) := by decide +kernel
theorem dX7_comingTo_44 : decode cX7_comingTo 44 = .ok (.iconst 0, 1) := by decide +kernel
theorem dX7_comingTo_45 : decode cX7_comingTo 45 = .ok (.iadd, 1) := by decide +kernel
theorem dX7_comingTo_46 : decode cX7_comingTo 46 = .ok (.istore_n 3, 1) := by decide +kernel
theorem dX7_comingTo_47 : decode cX7_comingTo 47 = .ok (.iinc 4 1, 3) := by decide +kernel
theorem dX7_comingTo_50 : decode cX7_comingTo 50 = .ok (.goto (-45), 3) := by decide +kernel
theorem dX7_comingTo_53 : decode cX7_comingTo 53 = .ok (.iload_n 3, 1) := by decide +kernel
theorem dX7_comingTo_54 : decode cX7_comingTo 54 = .ok (.ireturn, 1) := by decide +kernel
theorem dX7_addEcho_0 : decode cX7_addEcho 0 = .ok (.aload_n 0, 1) := by decide +kernel
theorem dX7_addEcho_1 : decode cX7_addEcho 1 = .ok (.iload_n 1, 1) := by decide +kernel
theorem dX7_addEcho_2 : decode cX7_addEcho 2 = .ok (.iconst 0, 1) := by decide +kernel
theorem dX7_addEcho_3 : decode cX7_addEcho 3 = .ok (.invokevirtual 33, 3) := by decide +kernel
theorem dX7_addEcho_6 : decode cX7_addEcho 6 = .ok (.istore 4, 2) := by decide +kernel
theorem dX7_addEcho_8 : decode cX7_addEcho 8 = .ok (.bipush 34, 2) := by decide +kernel
theorem dX7_addEcho_10 : decode cX7_addEcho 10 = .ok (.iconst 5, 1) := by decide +kernel
theorem dX7_addEcho_11 : decode cX7_addEcho 11 = .ok (.aload_n 0, 1) := by decide +kernel
theorem dX7_addEcho_12 : decode cX7_addEcho 12 = .ok (.getfield 7, 3) := by decide +kernel
theorem dX7_addEcho_15 : decode cX7_addEcho 15 = .ok (.bipush 9, 2) := by decide +kernel
theorem dX7_addEcho_17 : decode cX7_addEcho 17 = .ok (.iaload, 1) := by decide +kernel
theorem dX7_addEcho_18 : decode cX7_addEcho 18 = .ok (.imul, 1) := by decide +kernel
theorem dX7_addEcho_19 : decode cX7_addEcho 19 = .ok (.iadd, 1) := by decide +kernel
theorem dX7_addEcho_20 : decode cX7_addEcho 20 = .ok (.istore 5, 2) := by decide +kernel
theorem dX7_addEcho_22 : decode cX7_addEcho 22 = .ok (.aload_n 0, 1) := by decide +kernel
theorem dX7_addEcho_23 : decode cX7_addEcho 23 = .ok (.getfield 7, 3) := by decide +kernel
theorem dX7_addEcho_26 : decode cX7_addEcho 26 = .ok (.iload 5, 2) := by decide +kernel
theorem dX7_addEcho_28 : decode cX7_addEcho 28 = .ok (.iconst 0, 1) := by decide +kernel
theorem dX7_addEcho_29 : decode cX7_addEcho 29 = .ok (.iadd, 1) := by decide +kernel
theorem dX7_addEcho_30 : decode cX7_addEcho 30 = .ok (.iload_n 1, 1) := by decide +kernel
theorem dX7_addEcho_31 : decode cX7_addEcho 31 = .ok (.iastore, 1) := by decide +kernel
theorem dX7_addEcho_32 : decode cX7_addEcho 32 = .ok (.aload_n 0, 1) := by decide +kernel
theorem dX7_addEcho_33 : decode cX7_addEcho 33 = .ok (.getfield 7, 3) := by decide +kernel
theorem dX7_addEcho_36 : decode cX7_addEcho 36 = .ok (.iload 5, 2) := by decide +kernel
theorem dX7_addEcho_38 : decode cX7_addEcho 38 = .ok (.iconst 1, 1) := by decide +kernel
theorem dX7_addEcho_39 : decode cX7_addEcho 39 = .ok (.iadd, 1) := by decide +kernel
theorem dX7_addEcho_40 : decode cX7_addEcho 40 = .ok (.iload 4, 2) := by decide +kernel
theorem dX7_addEcho_42 : decode cX7_addEcho 42 = .ok (.iastore, 1) := by decide +kernel
theorem dX7_addEcho_43 : decode cX7_addEcho 43 = .ok (.aload_n 0, 1) := by decide +kernel
theorem dX7_addEcho_44 : decode cX7_addEcho 44 = .ok (.getfield 7, 3) := by decide +kernel
theorem dX7_addEcho_47 : decode cX7_addEcho 47 = .ok (.iload 5, 2) := by decide +kernel
theorem dX7_addEcho_49 : decode cX7_addEcho 49 = .ok (.iconst 2, 1) := by decide +kernel
theorem dX7_addEcho_50 : decode cX7_addEcho 50 = .ok (.iadd, 1) := by decide +kernel
theorem dX7_addEcho_51 : decode cX7_addEcho 51 = .ok (.iload_n 2, 1) := by decide +kernel
theorem dX7_addEcho_52 : decode cX7_addEcho 52 = .ok (.iastore, 1) := by decide +kernel
theorem dX7_addEcho_53 : decode cX7_addEcho 53 = .ok (.aload_n 0, 1) := by decide +kernel
theorem dX7_addEcho_54 : decode cX7_addEcho 54 = .ok (.getfield 7, 3) := by decide +kernel
theorem dX7_addEcho_57 : decode cX7_addEcho 57 = .ok (.iload 5, 2) := by decide +kernel
theorem dX7_addEcho_59 : decode cX7_addEcho 59 = .ok (.iconst 3, 1) := by decide +kernel
theorem dX7_addEcho_60 : decode cX7_addEcho 60 = .ok (.iadd, 1) := by decide +kernel
theorem dX7_addEcho_61 : decode cX7_addEcho 61 = .ok (.aload_n 0, 1) := by decide +kernel
theorem dX7_addEcho_62 : decode cX7_addEcho 62 = .ok (.getfield 7, 3) := by decide +kernel
theorem dX7_addEcho_65 : decode cX7_addEcho 65 = .ok (.iconst 3, 1) := by decide +kernel
theorem dX7_addEcho_66 : decode cX7_addEcho 66 = .ok (.iaload, 1) := by decide +kernel
theorem dX7_addEcho_67 : decode cX7_addEcho 67 = .ok (.aload_n 0, 1) := by decide +kernel
theorem dX7_addEcho_68 : decode cX7_addEcho 68 = .ok (.iload 4, 2) := by decide +kernel
theorem dX7_addEcho_70 : decode cX7_addEcho 70 = .ok (.iload_n 3, 1) := by decide +kernel
theorem dX7_addEcho_71 : decode cX7_addEcho 71 = .ok (.invokevirtual 57, 3) := by decide +kernel
theorem dX7_addEcho_74 : decode cX7_addEcho 74 = .ok (.iadd, 1) := by decide +kernel
theorem dX7_addEcho_75 : decode cX7_addEcho 75 = .ok (.iastore, 1) := by decide +kernel
theorem dX7_addEcho_76 : decode cX7_addEcho 76 = .ok (.aload_n 0, 1) := by decide +kernel
theorem dX7_addEcho_77 : decode cX7_addEcho 77 = .ok (.getfield 7, 3) := by decide +kernel
theorem dX7_addEcho_80 : decode cX7_addEcho 80 = .ok (.iload 5, 2) := by decide +kernel
theorem dX7_addEcho_82 : decode cX7_addEcho 82 = .ok (.iconst 4, 1) := by decide +kernel
theorem dX7_addEcho_83 : decode cX7_addEcho 83 = .ok (.iadd, 1) := by decide +kernel
theorem dX7_addEcho_84 : decode cX7_addEcho 84 = .ok (.iload_n 3, 1) := by decide +kernel
theorem dX7_addEcho_85 : decode cX7_addEcho 85 = .ok (.iastore, 1) := by decide +kernel
theorem dX7_addEcho_86 : decode cX7_addEcho 86 = .ok (.aload_n 0, 1) := by decide +kernel
theorem dX7_addEcho_87 : decode cX7_addEcho 87 = .ok (.getfield 7, 3) := by decide +kernel
theorem dX7_addEcho_90 : decode cX7_addEcho 90 = .ok (.bipush 9, 2) := by decide +kernel
theorem dX7_addEcho_92 : decode cX7_addEcho 92 = .ok (.dup2, 1) := by decide +kernel
theorem dX7_addEcho_93 : decode cX7_addEcho 93 = .ok (.iaload, 1) := by decide +kernel
theorem dX7_addEcho_94 : decode cX7_addEcho 94 = .ok (.iconst 1, 1) := by decide +kernel
theorem dX7_addEcho_95 : decode cX7_addEcho 95 = .ok (.iadd, 1) := by decide +kernel
theorem dX7_addEcho_96 : decode cX7_addEcho 96 = .ok (.iastore, 1) := by decide +kernel
theorem dX7_addEcho_97 : decode cX7_addEcho 97 = .ok (.return_, 1) := by decide +kernel
theorem dX7_doesCall_0 : decode cX7_doesCall 0 = .ok (.aload_n 0, 1) := by decide +kernel
theorem dX7_doesCall_1 : decode cX7_doesCall 1 = .ok (.iload_n 1, 1) := by decide +kernel
theorem dX7_doesCall_2 : decode cX7_doesCall 2 = .ok (.invokevirtual 60, 3) := by decide +kernel
theorem dX7_doesCall_5 : decode cX7_doesCall 5 = .ok (.iconst 2, 1) := by decide +kernel
theorem dX7_doesCall_6 : decode cX7_doesCall 6 = .ok (.iadd, 1) := by decide +kernel
theorem dX7_doesCall_7 : decode cX7_doesCall 7 = .ok (.bipush 6, 2) := by decide +kernel
theorem dX7_doesCall_9 : decode cX7_doesCall 9 = .ok (.if_icmp .le 16, 3) := by decide +kernel
theorem dX7_doesCall_12 : decode cX7_doesCall 12 = .ok (.aload_n 0, 1) := by decide +kernel
theorem dX7_doesCall_13 : decode cX7_doesCall 13 = .ok (.getfield 7, 3) := by decide +kernel
theorem dX7_doesCall_16 : decode cX7_doesCall 16 = .ok (.bipush 7, 2) := by decide +kernel
theorem dX7_doesCall_18 : decode cX7_doesCall 18 = .ok (.dup2, 1) := by decide +kernel
theorem dX7_doesCall_19 : decode cX7_doesCall 19 = .ok (.iaload, 1) := by decide +kernel
theorem dX7_doesCall_20 : decode cX7_doesCall 20 = .ok (.iconst 1, 1) := by decide +kernel
theorem dX7_doesCall_21 : decode cX7_doesCall 21 = .ok (.iadd, 1) := by decide +kernel
theorem dX7_doesCall_22 : decode cX7_doesCall 22 = .ok (.iastore, 1) := by decide +kernel
theorem dX7_doesCall_23 : decode cX7_doesCall 23 = .ok (.iconst (-1), 1) := by decide +kernel
theorem dX7_doesCall_24 : decode cX7_doesCall 24 = .ok (.ireturn, 1) := by decide +kernel
theorem dX7_doesCall_25 : decode cX7_doesCall 25 = .ok (.aload_n 0, 1) := by decide +kernel
theorem dX7_doesCall_26 : decode cX7_doesCall 26 = .ok (.iload_n 1, 1) := by decide +kernel
theorem dX7_doesCall_27 : decode cX7_doesCall 27 = .ok (.iload_n 2, 1) := by decide +kernel
theorem dX7_doesCall_28 : decode cX7_doesCall 28 = .ok (.iconst 0, 1) := by decide +kernel
theorem dX7_doesCall_29 : decode cX7_doesCall 29 = .ok (.invokevirtual 63, 3) := by decide +kernel
theorem dX7_doesCall_32 : decode cX7_doesCall 32 = .ok (.aload_n 0, 1) := by decide +kernel
theorem dX7_doesCall_33 : decode cX7_doesCall 33 = .ok (.iload_n 1, 1) := by decide +kernel
theorem dX7_doesCall_34 : decode cX7_doesCall 34 = .ok (.iload_n 2, 1) := by decide +kernel
theorem dX7_doesCall_35 : decode cX7_doesCall 35 = .ok (.iconst 1, 1) := by decide +kernel
theorem dX7_doesCall_36 : decode cX7_doesCall 36 = .ok (.invokevirtual 63, 3) := by decide +kernel
theorem dX7_doesCall_39 : decode cX7_doesCall 39 = .ok (.aload_n 0, 1) := by decide +kernel
theorem dX7_doesCall_40 : decode cX7_doesCall 40 = .ok (.getfield 7, 3) := by decide +kernel
theorem dX7_doesCall_43 : decode cX7_doesCall 43 = .ok (.bipush 8, 2) := by decide +kernel
theorem dX7_doesCall_45 : decode cX7_doesCall 45 = .ok (.dup2, 1) := by decide +kernel
theorem dX7_doesCall_46 : decode cX7_doesCall 46 = .ok (.iaload, 1) := by decide +kernel
theorem dX7_doesCall_47 : decode cX7_doesCall 47 = .ok (.iconst 2, 1) := by decide +kernel
theorem dX7_doesCall_48 : decode cX7_doesCall 48 = .ok (.iadd, 1) := by decide +kernel
theorem dX7_doesCall_49 : decode cX7_doesCall 49 = .ok (.iastore, 1) := by decide +kernel
theorem dX7_doesCall_50 : decode cX7_doesCall 50 = .ok (.aload_n 0, 1) := by decide +kernel
theorem dX7_doesCall_51 : decode cX7_doesCall 51 = .ok (.getfield 7, 3) := by decide +kernel
theorem dX7_doesCall_54 : decode cX7_doesCall 54 = .ok (.bipush 10, 2) := by decide +kernel
theorem dX7_doesCall_56 : decode cX7_doesCall 56 = .ok (.bipush 6, 2) := by decide +kernel
theorem dX7_doesCall_58 : decode cX7_doesCall 58 = .ok (.iload_n 1, 1) := by decide +kernel
theorem dX7_doesCall_59 : decode cX7_doesCall 59 = .ok (.imul, 1) := by decide +kernel
theorem dX7_doesCall_60 : decode cX7_doesCall 60 = .ok (.iadd, 1) := by decide +kernel
theorem dX7_doesCall_61 : decode cX7_doesCall 61 = .ok (.iconst 2, 1) := by decide +kernel
theorem dX7_doesCall_62 : decode cX7_doesCall 62 = .ok (.iadd, 1) := by decide +kernel
theorem dX7_doesCall_63 : decode cX7_doesCall 63 = .ok (.dup2, 1) := by decide +kernel
theorem dX7_doesCall_64 : decode cX7_doesCall 64 = .ok (.iaload, 1) := by decide +kernel
theorem dX7_doesCall_65 : decode cX7_doesCall 65 = .ok (.iconst 1, 1) := by decide +kernel
theorem dX7_doesCall_66 : decode cX7_doesCall 66 = .ok (.iadd, 1) := by decide +kernel
theorem dX7_doesCall_67 : decode cX7_doesCall 67 = .ok (.iastore, 1) := by decide +kernel
theorem dX7_doesCall_68 : decode cX7_doesCall 68 = .ok (.aload_n 0, 1) := by decide +kernel
theorem dX7_doesCall_69 : decode cX7_doesCall 69 = .ok (.aload_n 0, 1) := by decide +kernel
theorem dX7_doesCall_70 : decode cX7_doesCall 70 = .ok (.iload_n 1, 1) := by decide +kernel
theorem dX7_doesCall_71 : decode cX7_doesCall 71 = .ok (.iconst 0, 1) := by decide +kernel
theorem dX7_doesCall_72 : decode cX7_doesCall 72 = .ok (.invokevirtual 33, 3) := by decide +kernel
theorem dX7_doesCall_75 : decode cX7_doesCall 75 = .ok (.iconst 0, 1) := by decide +kernel
theorem dX7_doesCall_76 : decode cX7_doesCall 76 = .ok (.invokevirtual 57, 3) := by decide +kernel
theorem dX7_doesCall_79 : decode cX7_doesCall 79 = .ok (.istore_n 3, 1) := by decide +kernel
theorem dX7_doesCall_80 : decode cX7_doesCall 80 = .ok (.aload_n 0, 1) := by decide +kernel
theorem dX7_doesCall_81 : decode cX7_doesCall 81 = .ok (.aload_n 0, 1) := by decide +kernel
theorem dX7_doesCall_82 : decode cX7_doesCall 82 = .ok (.iload_n 1, 1) := by decide +kernel
theorem dX7_doesCall_83 : decode cX7_doesCall 83 = .ok (.iconst 0, 1) := by decide +kernel
theorem dX7_doesCall_84 : decode cX7_doesCall 84 = .ok (.invokevirtual 33, 3) := by decide +kernel
theorem dX7_doesCall_87 : decode cX7_doesCall 87 = .ok (.iconst 1, 1) := by decide +kernel
theorem dX7_doesCall_88 : decode cX7_doesCall 88 = .ok (.invokevirtual 57, 3) := by decide +kernel
theorem dX7_doesCall_91 : decode cX7_doesCall 91 = .ok (.istore 4, 2) := by decide +kernel
theorem dX7_doesCall_93 : decode cX7_doesCall 93 = .ok (.iload_n 3, 1) := by decide +kernel
theorem dX7_doesCall_94 : decode cX7_doesCall 94 = .ok (.iload 4, 2) := by decide +kernel
theorem dX7_doesCall_96 : decode cX7_doesCall 96 = .ok (.if_icmp .ge 7, 3) := by decide +kernel
theorem dX7_doesCall_99 : decode cX7_doesCall 99 = .ok (.iload_n 3, 1) := by decide +kernel
theorem dX7_doesCall_100 : decode cX7_doesCall 100 = .ok (.goto 5, 3) := by decide +kernel
theorem dX7_doesCall_103 : decode cX7_doesCall 103 = .ok (.iload 4, 2) := by decide +kernel
theorem dX7_doesCall_105 : decode cX7_doesCall 105 = .ok (.ireturn, 1) := by decide +kernel
theorem dX7_doesWalk_0 : decode cX7_doesWalk 0 = .ok (.aload_n 0, 1) := by decide +kernel
theorem dX7_doesWalk_1 : decode cX7_doesWalk 1 = .ok (.iload_n 1, 1) := by decide +kernel
theorem dX7_doesWalk_2 : decode cX7_doesWalk 2 = .ok (.iconst 0, 1) := by decide +kernel
theorem dX7_doesWalk_3 : decode cX7_doesWalk 3 = .ok (.invokevirtual 33, 3) := by decide +kernel
theorem dX7_doesWalk_6 : decode cX7_doesWalk 6 = .ok (.iload_n 2, 1) := by decide +kernel
theorem dX7_doesWalk_7 : decode cX7_doesWalk 7 = .ok (.iadd, 1) := by decide +kernel
theorem dX7_doesWalk_8 : decode cX7_doesWalk 8 = .ok (.istore_n 3, 1) := by decide +kernel
theorem dX7_doesWalk_9 : decode cX7_doesWalk 9 = .ok (.iload_n 3, 1) := by decide +kernel
theorem dX7_doesWalk_10 : decode cX7_doesWalk 10 = .ok (.iconst 0, 1) := by decide +kernel
theorem dX7_doesWalk_11 : decode cX7_doesWalk 11 = .ok (.aload_n 0, 1) := by decide +kernel
theorem dX7_doesWalk_12 : decode cX7_doesWalk 12 = .ok (.getfield 7, 3) := by decide +kernel
theorem dX7_doesWalk_15 : decode cX7_doesWalk 15 = .ok (.iconst 0, 1) := by decide +kernel
theorem dX7_doesWalk_16 : decode cX7_doesWalk 16 = .ok (.iaload, 1) := by decide +kernel
theorem dX7_doesWalk_17 : decode cX7_doesWalk 17 = .ok (.invokestatic 29, 3) := by decide +kernel
theorem dX7_doesWalk_20 : decode cX7_doesWalk 20 = .ok (.ifCond .ne 16, 3) := by decide +kernel
theorem dX7_doesWalk_23 : decode cX7_doesWalk 23 = .ok (.aload_n 0, 1) := by decide +kernel
theorem dX7_doesWalk_24 : decode cX7_doesWalk 24 = .ok (.getfield 7, 3) := by decide +kernel
theorem dX7_doesWalk_27 : decode cX7_doesWalk 27 = .ok (.bipush 7, 2) := by decide +kernel
theorem dX7_doesWalk_29 : decode cX7_doesWalk 29 = .ok (.dup2, 1) := by decide +kernel
theorem dX7_doesWalk_30 : decode cX7_doesWalk 30 = .ok (.iaload, 1) := by decide +kernel
theorem dX7_doesWalk_31 : decode cX7_doesWalk 31 = .ok (.iconst 1, 1) := by decide +kernel
theorem dX7_doesWalk_32 : decode cX7_doesWalk 32 = .ok (.iadd, 1) := by decide +kernel
theorem dX7_doesWalk_33 : decode cX7_doesWalk 33 = .ok (.iastore, 1) := by decide +kernel
theorem dX7_doesWalk_34 : decode cX7_doesWalk 34 = .ok (.iconst (-1), 1) := by decide +kernel
theorem dX7_doesWalk_35 : decode cX7_doesWalk 35 = .ok (.ireturn, 1) := by decide +kernel
theorem dX7_doesWalk_36 : decode cX7_doesWalk 36 = .ok (.aload_n 0, 1) := by decide +kernel
theorem dX7_doesWalk_37 : decode cX7_doesWalk 37 = .ok (.getfield 7, 3) := by decide +kernel
theorem dX7_doesWalk_40 : decode cX7_doesWalk 40 = .ok (.bipush 10, 2) := by decide +kernel
theorem dX7_doesWalk_42 : decode cX7_doesWalk 42 = .ok (.bipush 6, 2) := by decide +kernel
theorem dX7_doesWalk_44 : decode cX7_doesWalk 44 = .ok (.iload_n 1, 1) := by decide +kernel
theorem dX7_doesWalk_45 : decode cX7_doesWalk 45 = .ok (.imul, 1) := by decide +kernel
theorem dX7_doesWalk_46 : decode cX7_doesWalk 46 = .ok (.iadd, 1) := by decide +kernel
theorem dX7_doesWalk_47 : decode cX7_doesWalk 47 = .ok (.iconst 0, 1) := by decide +kernel
theorem dX7_doesWalk_48 : decode cX7_doesWalk 48 = .ok (.iadd, 1) := by decide +kernel
theorem dX7_doesWalk_49 : decode cX7_doesWalk 49 = .ok (.iload_n 3, 1) := by decide +kernel
theorem dX7_doesWalk_50 : decode cX7_doesWalk 50 = .ok (.iastore, 1) := by decide +kernel
theorem dX7_doesWalk_51 : decode cX7_doesWalk 51 = .ok (.iload_n 3, 1) := by decide +kernel
theorem dX7_doesWalk_52 : decode cX7_doesWalk 52 = .ok (.ireturn, 1) := by decide +kernel
theorem dX7_comesBack_0 : decode cX7_comesBack 0 = .ok (.aload_n 0, 1) := by decide +kernel
theorem dX7_comesBack_1 : decode cX7_comesBack 1 = .ok (.iload_n 1, 1) := by decide +kernel
theorem dX7_comesBack_2 : decode cX7_comesBack 2 = .ok (.iconst 0, 1) := by decide +kernel
theorem dX7_comesBack_3 : decode cX7_comesBack 3 = .ok (.invokevirtual 54, 3) := by decide +kernel
theorem dX7_comesBack_6 : decode cX7_comesBack 6 = .ok (.istore_n 3, 1) := by decide +kernel
theorem dX7_comesBack_7 : decode cX7_comesBack 7 = .ok (.aload_n 0, 1) := by decide +kernel
theorem dX7_comesBack_8 : decode cX7_comesBack 8 = .ok (.iload_n 3, 1) := by decide +kernel
theorem dX7_comesBack_9 : decode cX7_comesBack 9 = .ok (.iconst 0, 1) := by decide +kernel
theorem dX7_comesBack_10 : decode cX7_comesBack 10 = .ok (.invokevirtual 33, 3) := by decide +kernel
theorem dX7_comesBack_13 : decode cX7_comesBack 13 = .ok (.aload_n 0, 1) := by decide +kernel
theorem dX7_comesBack_14 : decode cX7_comesBack 14 = .ok (.iload_n 1, 1) := by decide +kernel
theorem dX7_comesBack_15 : decode cX7_comesBack 15 = .ok (.iconst 1, 1) := by decide +kernel
theorem dX7_comesBack_16 : decode cX7_comesBack 16 = .ok (.invokevirtual 54, 3) := by decide +kernel
theorem dX7_comesBack_19 : decode cX7_comesBack 19 = .ok (.if_icmp .ne 7, 3) := by decide +kernel
theorem dX7_comesBack_22 : decode cX7_comesBack 22 = .ok (.iconst 1, 1) := by decide +kernel
theorem dX7_comesBack_23 : decode cX7_comesBack 23 = .ok (.goto 4, 3) := by decide +kernel
theorem dX7_comesBack_26 : decode cX7_comesBack 26 = .ok (.iconst 0, 1) := by decide +kernel
theorem dX7_comesBack_27 : decode cX7_comesBack 27 = .ok (.istore 4, 2) := by decide +kernel
theorem dX7_comesBack_29 : decode cX7_comesBack 29 = .ok (.iload_n 2, 1) := by decide +kernel
theorem dX7_comesBack_30 : decode cX7_comesBack 30 = .ok (.ifCond .ne 7, 3) := by decide +kernel
theorem dX7_comesBack_33 : decode cX7_comesBack 33 = .ok (.iconst 4, 1) := by decide +kernel
theorem dX7_comesBack_34 : decode cX7_comesBack 34 = .ok (.goto 13, 3) := by decide +kernel
theorem dX7_comesBack_37 : decode cX7_comesBack 37 = .ok (.iload 4, 2) := by decide +kernel
theorem dX7_comesBack_39 : decode cX7_comesBack 39 = .ok (.ifCond .eq 7, 3) := by decide +kernel
theorem dX7_comesBack_42 : decode cX7_comesBack 42 = .ok (.iconst 3, 1) := by decide +kernel
theorem dX7_comesBack_43 : decode cX7_comesBack 43 = .ok (.goto 4, 3) := by decide +kernel
theorem dX7_comesBack_46 : decode cX7_comesBack 46 = .ok (.iconst 5, 1) := by decide +kernel
theorem dX7_comesBack_47 : decode cX7_comesBack 47 = .ok (.istore 5, 2) := by decide +kernel
theorem dX7_comesBack_49 : decode cX7_comesBack 49 = .ok (.aload_n 0, 1) := by decide +kernel
theorem dX7_comesBack_50 : decode cX7_comesBack 50 = .ok (.getfield 7, 3) := by decide +kernel
theorem dX7_comesBack_53 : decode cX7_comesBack 53 = .ok (.bipush 10, 2) := by decide +kernel
theorem dX7_comesBack_55 : decode cX7_comesBack 55 = .ok (.bipush 6, 2) := by decide +kernel
theorem dX7_comesBack_57 : decode cX7_comesBack 57 = .ok (.iload_n 3, 1) := by decide +kernel
theorem dX7_comesBack_58 : decode cX7_comesBack 58 = .ok (.imul, 1) := by decide +kernel
theorem dX7_comesBack_59 : decode cX7_comesBack 59 = .ok (.iadd, 1) := by decide +kernel
theorem dX7_comesBack_60 : decode cX7_comesBack 60 = .ok (.iload 5, 2) := by decide +kernel
theorem dX7_comesBack_62 : decode cX7_comesBack 62 = .ok (.iadd, 1) := by decide +kernel
theorem dX7_comesBack_63 : decode cX7_comesBack 63 = .ok (.dup2, 1) := by decide +kernel
theorem dX7_comesBack_64 : decode cX7_comesBack 64 = .ok (.iaload, 1) := by decide +kernel
theorem dX7_comesBack_65 : decode cX7_comesBack 65 = .ok (.iconst 1, 1) := by decide +kernel
theorem dX7_comesBack_66 : decode cX7_comesBack 66 = .ok (.iadd, 1) := by decide +kernel
theorem dX7_comesBack_67 : decode cX7_comesBack 67 = .ok (.iastore, 1) := by decide +kernel
theorem dX7_comesBack_68 : decode cX7_comesBack 68 = .ok (.iload 5, 2) := by decide +kernel
theorem dX7_comesBack_70 : decode cX7_comesBack 70 = .ok (.iconst 3, 1) := by decide +kernel
theorem dX7_comesBack_71 : decode cX7_comesBack 71 = .ok (.if_icmp .ne 18, 3) := by decide +kernel
theorem dX7_comesBack_74 : decode cX7_comesBack 74 = .ok (.aload_n 0, 1) := by decide +kernel
theorem dX7_comesBack_75 : decode cX7_comesBack 75 = .ok (.getfield 7, 3) := by decide +kernel
theorem dX7_comesBack_78 : decode cX7_comesBack 78 = .ok (.iconst 4, 1) := by decide +kernel
theorem dX7_comesBack_79 : decode cX7_comesBack 79 = .ok (.iaload, 1) := by decide +kernel
theorem dX7_comesBack_80 : decode cX7_comesBack 80 = .ok (.aload_n 0, 1) := by decide +kernel
theorem dX7_comesBack_81 : decode cX7_comesBack 81 = .ok (.iload_n 1, 1) := by decide +kernel
theorem dX7_comesBack_82 : decode cX7_comesBack 82 = .ok (.iconst 1, 1) := by decide +kernel
theorem dX7_comesBack_83 : decode cX7_comesBack 83 = .ok (.invokevirtual 54, 3) := by decide +kernel
theorem dX7_comesBack_86 : decode cX7_comesBack 86 = .ok (.if_icmp .eq 5, 3) := by decide +kernel
theorem dX7_comesBack_89 : decode cX7_comesBack 89 = .ok (.iconst 0, 1) := by decide +kernel
theorem dX7_comesBack_90 : decode cX7_comesBack 90 = .ok (.ireturn, 1) := by decide +kernel
theorem dX7_comesBack_91 : decode cX7_comesBack 91 = .ok (.aload_n 0, 1) := by decide +kernel
theorem dX7_comesBack_92 : decode cX7_comesBack 92 = .ok (.getfield 7, 3) := by decide +kernel
theorem dX7_comesBack_95 : decode cX7_comesBack 95 = .ok (.bipush 10, 2) := by decide +kernel
theorem dX7_comesBack_97 : decode cX7_comesBack 97 = .ok (.bipush 6, 2) := by decide +kernel
theorem dX7_comesBack_99 : decode cX7_comesBack 99 = .ok (.iload_n 3, 1) := by decide +kernel
theorem dX7_comesBack_100 : decode cX7_comesBack 100 = .ok (.imul, 1) := by decide +kernel
theorem dX7_comesBack_101 : decode cX7_comesBack 101 = .ok (.iadd, 1) := by decide +kernel
theorem dX7_comesBack_102 : decode cX7_comesBack 102 = .ok (.iconst 1, 1) := by decide +kernel
theorem dX7_comesBack_103 : decode cX7_comesBack 103 = .ok (.iadd, 1) := by decide +kernel
theorem dX7_comesBack_104 : decode cX7_comesBack 104 = .ok (.dup2, 1) := by decide +kernel
theorem dX7_comesBack_105 : decode cX7_comesBack 105 = .ok (.iaload, 1) := by decide +kernel
theorem dX7_comesBack_106 : decode cX7_comesBack 106 = .ok (.iconst 1, 1) := by decide +kernel
theorem dX7_comesBack_107 : decode cX7_comesBack 107 = .ok (.iadd, 1) := by decide +kernel
theorem dX7_comesBack_108 : decode cX7_comesBack 108 = .ok (.iastore, 1) := by decide +kernel
theorem dX7_comesBack_109 : decode cX7_comesBack 109 = .ok (.aload_n 0, 1) := by decide +kernel
theorem dX7_comesBack_110 : decode cX7_comesBack 110 = .ok (.aload_n 0, 1) := by decide +kernel
theorem dX7_comesBack_111 : decode cX7_comesBack 111 = .ok (.iload_n 1, 1) := by decide +kernel
theorem dX7_comesBack_112 : decode cX7_comesBack 112 = .ok (.iconst 2, 1) := by decide +kernel
theorem dX7_comesBack_113 : decode cX7_comesBack 113 = .ok (.invokevirtual 54, 3) := by decide +kernel
theorem dX7_comesBack_116 : decode cX7_comesBack 116 = .ok (.invokevirtual 67, 3) := by decide +kernel
theorem dX7_comesBack_119 : decode cX7_comesBack 119 = .ok (.iconst 1, 1) := by decide +kernel
theorem dX7_comesBack_120 : decode cX7_comesBack 120 = .ok (.ireturn, 1) := by decide +kernel
theorem dX7_dropDue_0 : decode cX7_dropDue 0 = .ok (.iconst 0, 1) := by decide +kernel
theorem dX7_dropDue_1 : decode cX7_dropDue 1 = .ok (.istore_n 1, 1) := by decide +kernel
theorem dX7_dropDue_2 : decode cX7_dropDue 2 = .ok (.iconst 0, 1) := by decide +kernel
theorem dX7_dropDue_3 : decode cX7_dropDue 3 = .ok (.istore_n 2, 1) := by decide +kernel
theorem dX7_dropDue_4 : decode cX7_dropDue 4 = .ok (.iload_n 2, 1) := by decide +kernel
theorem dX7_dropDue_5 : decode cX7_dropDue 5 = .ok (.aload_n 0, 1) := by decide +kernel
theorem dX7_dropDue_6 : decode cX7_dropDue 6 = .ok (.getfield 7, 3) := by decide +kernel
theorem dX7_dropDue_9 : decode cX7_dropDue 9 = .ok (.bipush 9, 2) := by decide +kernel
theorem dX7_dropDue_11 : decode cX7_dropDue 11 = .ok (.iaload, 1) := by decide +kernel
theorem dX7_dropDue_12 : decode cX7_dropDue 12 = .ok (.if_icmp .ge 59, 3) := by decide +kernel
theorem dX7_dropDue_15 : decode cX7_dropDue 15 = .ok (.aload_n 0, 1) := by decide +kernel
theorem dX7_dropDue_16 : decode cX7_dropDue 16 = .ok (.iload_n 2, 1) := by decide +kernel
theorem dX7_dropDue_17 : decode cX7_dropDue 17 = .ok (.iconst 3, 1) := by decide +kernel
theorem dX7_dropDue_18 : decode cX7_dropDue 18 = .ok (.invokevirtual 54, 3) := by decide +kernel
theorem dX7_dropDue_21 : decode cX7_dropDue 21 = .ok (.aload_n 0, 1) := by decide +kernel
theorem dX7_dropDue_22 : decode cX7_dropDue 22 = .ok (.getfield 7, 3) := by decide +kernel
theorem dX7_dropDue_25 : decode cX7_dropDue 25 = .ok (.iconst 3, 1) := by decide +kernel
theorem dX7_dropDue_26 : decode cX7_dropDue 26 = .ok (.iaload, 1) := by decide +kernel
theorem dX7_dropDue_27 : decode cX7_dropDue 27 = .ok (.if_icmp .le 38, 3) := by decide +kernel
theorem dX7_dropDue_30 : decode cX7_dropDue 30 = .ok (.iconst 0, 1) := by decide +kernel
theorem dX7_dropDue_31 : decode cX7_dropDue 31 = .ok (.istore_n 3, 1) := by decide +kernel
theorem dX7_dropDue_32 : decode cX7_dropDue 32 = .ok (.iload_n 3, 1) := by decide +kernel
theorem dX7_dropDue_33 : decode cX7_dropDue 33 = .ok (.iconst 5, 1) := by decide +kernel
theorem dX7_dropDue_34 : decode cX7_dropDue 34 = .ok (.if_icmp .ge 28, 3) := by decide +kernel
theorem dX7_dropDue_37 : decode cX7_dropDue 37 = .ok (.aload_n 0, 1) := by decide +kernel
theorem dX7_dropDue_38 : decode cX7_dropDue 38 = .ok (.getfield 7, 3) := by decide +kernel
theorem dX7_dropDue_41 : decode cX7_dropDue 41 = .ok (.bipush 34, 2) := by decide +kernel
theorem dX7_dropDue_43 : decode cX7_dropDue 43 = .ok (.iconst 5, 1) := by decide +kernel
theorem dX7_dropDue_44 : decode cX7_dropDue 44 = .ok (.iload_n 1, 1) := by decide +kernel
theorem dX7_dropDue_45 : decode cX7_dropDue 45 = .ok (.imul, 1) := by decide +kernel
theorem dX7_dropDue_46 : decode cX7_dropDue 46 = .ok (.iadd, 1) := by decide +kernel
theorem dX7_dropDue_47 : decode cX7_dropDue 47 = .ok (.iload_n 3, 1) := by decide +kernel
theorem dX7_dropDue_48 : decode cX7_dropDue 48 = .ok (.iadd, 1) := by decide +kernel
theorem dX7_dropDue_49 : decode cX7_dropDue 49 = .ok (.aload_n 0, 1) := by decide +kernel
theorem dX7_dropDue_50 : decode cX7_dropDue 50 = .ok (.iload_n 2, 1) := by decide +kernel
theorem dX7_dropDue_51 : decode cX7_dropDue 51 = .ok (.iload_n 3, 1) := by decide +kernel
theorem dX7_dropDue_52 : decode cX7_dropDue 52 = .ok (.invokevirtual 54, 3) := by decide +kernel
theorem dX7_dropDue_55 : decode cX7_dropDue 55 = .ok (.iastore, 1) := by decide +kernel
theorem dX7_dropDue_56 : decode cX7_dropDue 56 = .ok (.iinc 3 1, 3) := by decide +kernel
theorem dX7_dropDue_59 : decode cX7_dropDue 59 = .ok (.goto (-27), 3) := by decide +kernel
theorem dX7_dropDue_62 : decode cX7_dropDue 62 = .ok (.iinc 1 1, 3) := by decide +kernel
theorem dX7_dropDue_65 : decode cX7_dropDue 65 = .ok (.iinc 2 1, 3) := by decide +kernel
theorem dX7_dropDue_68 : decode cX7_dropDue 68 = .ok (.goto (-64), 3) := by decide +kernel
theorem dX7_dropDue_71 : decode cX7_dropDue 71 = .ok (.aload_n 0, 1) := by decide +kernel
theorem dX7_dropDue_72 : decode cX7_dropDue 72 = .ok (.getfield 7, 3) := by decide +kernel
theorem dX7_dropDue_75 : decode cX7_dropDue 75 = .ok (.bipush 9, 2) := by decide +kernel
theorem dX7_dropDue_77 : decode cX7_dropDue 77 = .ok (.iload_n 1, 1) := by decide +kernel
theorem dX7_dropDue_78 : decode cX7_dropDue 78 = .ok (.iastore, 1) := by decide +kernel
theorem dX7_dropDue_79 : decode cX7_dropDue 79 = .ok (.return_, 1) := by decide +kernel
theorem dX7_turn_0 : decode cX7_turn 0 = .ok (.aload_n 0, 1) := by decide +kernel
theorem dX7_turn_1 : decode cX7_turn 1 = .ok (.getfield 7, 3) := by decide +kernel
theorem dX7_turn_4 : decode cX7_turn 4 = .ok (.iconst 3, 1) := by decide +kernel
theorem dX7_turn_5 : decode cX7_turn 5 = .ok (.dup2, 1) := by decide +kernel
theorem dX7_turn_6 : decode cX7_turn 6 = .ok (.iaload, 1) := by decide +kernel
theorem dX7_turn_7 : decode cX7_turn 7 = .ok (.iconst 1, 1) := by decide +kernel
theorem dX7_turn_8 : decode cX7_turn 8 = .ok (.iadd, 1) := by decide +kernel
theorem dX7_turn_9 : decode cX7_turn 9 = .ok (.iastore, 1) := by decide +kernel
theorem dX7_turn_10 : decode cX7_turn 10 = .ok (.aload_n 0, 1) := by decide +kernel
theorem dX7_turn_11 : decode cX7_turn 11 = .ok (.invokevirtual 71, 3) := by decide +kernel
theorem dX7_turn_14 : decode cX7_turn 14 = .ok (.aload_n 0, 1) := by decide +kernel
theorem dX7_turn_15 : decode cX7_turn 15 = .ok (.aload_n 0, 1) := by decide +kernel
theorem dX7_turn_16 : decode cX7_turn 16 = .ok (.getfield 7, 3) := by decide +kernel
theorem dX7_turn_19 : decode cX7_turn 19 = .ok (.iconst 5, 1) := by decide +kernel
theorem dX7_turn_20 : decode cX7_turn 20 = .ok (.iaload, 1) := by decide +kernel
theorem dX7_turn_21 : decode cX7_turn 21 = .ok (.invokevirtual 74, 3) := by decide +kernel
theorem dX7_turn_24 : decode cX7_turn 24 = .ok (.aload_n 0, 1) := by decide +kernel
theorem dX7_turn_25 : decode cX7_turn 25 = .ok (.getfield 7, 3) := by decide +kernel
theorem dX7_turn_28 : decode cX7_turn 28 = .ok (.iconst 4, 1) := by decide +kernel
theorem dX7_turn_29 : decode cX7_turn 29 = .ok (.aload_n 0, 1) := by decide +kernel
theorem dX7_turn_30 : decode cX7_turn 30 = .ok (.getfield 47, 3) := by decide +kernel
theorem dX7_turn_33 : decode cX7_turn 33 = .ok (.iastore, 1) := by decide +kernel
theorem dX7_turn_34 : decode cX7_turn 34 = .ok (.aload_n 0, 1) := by decide +kernel
theorem dX7_turn_35 : decode cX7_turn 35 = .ok (.getfield 7, 3) := by decide +kernel
theorem dX7_turn_38 : decode cX7_turn 38 = .ok (.bipush 6, 2) := by decide +kernel
theorem dX7_turn_40 : decode cX7_turn 40 = .ok (.aload_n 0, 1) := by decide +kernel
theorem dX7_turn_41 : decode cX7_turn 41 = .ok (.getfield 50, 3) := by decide +kernel
theorem dX7_turn_44 : decode cX7_turn 44 = .ok (.ifCond .eq 7, 3) := by decide +kernel
theorem dX7_turn_47 : decode cX7_turn 47 = .ok (.iconst 1, 1) := by decide +kernel
theorem dX7_turn_48 : decode cX7_turn 48 = .ok (.goto 4, 3) := by decide +kernel
theorem dX7_turn_51 : decode cX7_turn 51 = .ok (.iconst 0, 1) := by decide +kernel
theorem dX7_turn_52 : decode cX7_turn 52 = .ok (.iastore, 1) := by decide +kernel
theorem dX7_turn_53 : decode cX7_turn 53 = .ok (.iconst 0, 1) := by decide +kernel
theorem dX7_turn_54 : decode cX7_turn 54 = .ok (.istore_n 1, 1) := by decide +kernel
theorem dX7_turn_55 : decode cX7_turn 55 = .ok (.iconst 0, 1) := by decide +kernel
theorem dX7_turn_56 : decode cX7_turn 56 = .ok (.istore_n 2, 1) := by decide +kernel
theorem dX7_turn_57 : decode cX7_turn 57 = .ok (.iload_n 2, 1) := by decide +kernel
theorem dX7_turn_58 : decode cX7_turn 58 = .ok (.aload_n 0, 1) := by decide +kernel
theorem dX7_turn_59 : decode cX7_turn 59 = .ok (.getfield 7, 3) := by decide +kernel
theorem dX7_turn_62 : decode cX7_turn 62 = .ok (.iconst 0, 1) := by decide +kernel
theorem dX7_turn_63 : decode cX7_turn 63 = .ok (.iaload, 1) := by decide +kernel
theorem dX7_turn_64 : decode cX7_turn 64 = .ok (.if_icmp .gt 108, 3) := by decide +kernel
theorem dX7_turn_67 : decode cX7_turn 67 = .ok (.aload_n 0, 1) := by decide +kernel
theorem dX7_turn_68 : decode cX7_turn 68 = .ok (.iload_n 2, 1) := by decide +kernel
theorem dX7_turn_69 : decode cX7_turn 69 = .ok (.aload_n 0, 1) := by decide +kernel
theorem dX7_turn_70 : decode cX7_turn 70 = .ok (.getfield 7, 3) := by decide +kernel
theorem dX7_turn_73 : decode cX7_turn 73 = .ok (.iconst 3, 1) := by decide +kernel
theorem dX7_turn_74 : decode cX7_turn 74 = .ok (.iaload, 1) := by decide +kernel
theorem dX7_turn_75 : decode cX7_turn 75 = .ok (.invokevirtual 77, 3) := by decide +kernel
theorem dX7_turn_78 : decode cX7_turn 78 = .ok (.iconst 1, 1) := by decide +kernel
theorem dX7_turn_79 : decode cX7_turn 79 = .ok (.if_icmp .ne 7, 3) := by decide +kernel
theorem dX7_turn_82 : decode cX7_turn 82 = .ok (.iconst 1, 1) := by decide +kernel
theorem dX7_turn_83 : decode cX7_turn 83 = .ok (.goto 4, 3) := by decide +kernel
theorem dX7_turn_86 : decode cX7_turn 86 = .ok (.iconst 0, 1) := by decide +kernel
theorem dX7_turn_87 : decode cX7_turn 87 = .ok (.istore_n 3, 1) := by decide +kernel
theorem dX7_turn_88 : decode cX7_turn 88 = .ok (.iconst 0, 1) := by decide +kernel
theorem dX7_turn_89 : decode cX7_turn 89 = .ok (.istore 4, 2) := by decide +kernel
theorem dX7_turn_91 : decode cX7_turn 91 = .ok (.iload 4, 2) := by decide +kernel
theorem dX7_turn_93 : decode cX7_turn 93 = .ok (.aload_n 0, 1) := by decide +kernel
theorem dX7_turn_94 : decode cX7_turn 94 = .ok (.getfield 7, 3) := by decide +kernel
theorem dX7_turn_97 : decode cX7_turn 97 = .ok (.bipush 9, 2) := by decide +kernel
theorem dX7_turn_99 : decode cX7_turn 99 = .ok (.iaload, 1) := by decide +kernel
theorem dX7_turn_100 : decode cX7_turn 100 = .ok (.if_icmp .ge 66, 3) := by decide +kernel
theorem dX7_turn_103 : decode cX7_turn 103 = .ok (.aload_n 0, 1) := by decide +kernel
theorem dX7_turn_104 : decode cX7_turn 104 = .ok (.iload 4, 2) := by decide +kernel
theorem dX7_turn_106 : decode cX7_turn 106 = .ok (.iconst 1, 1) := by decide +kernel
theorem dX7_turn_107 : decode cX7_turn 107 = .ok (.invokevirtual 54, 3) := by decide +kernel
theorem dX7_turn_110 : decode cX7_turn 110 = .ok (.iload_n 2, 1) := by decide +kernel
theorem dX7_turn_111 : decode cX7_turn 111 = .ok (.if_icmp .ne 23, 3) := by decide +kernel
theorem dX7_turn_114 : decode cX7_turn 114 = .ok (.aload_n 0, 1) := by decide +kernel
theorem dX7_turn_115 : decode cX7_turn 115 = .ok (.iload 4, 2) := by decide +kernel
theorem dX7_turn_117 : decode cX7_turn 117 = .ok (.iconst 3, 1) := by decide +kernel
theorem dX7_turn_118 : decode cX7_turn 118 = .ok (.invokevirtual 54, 3) := by decide +kernel
theorem dX7_turn_121 : decode cX7_turn 121 = .ok (.aload_n 0, 1) := by decide +kernel
theorem dX7_turn_122 : decode cX7_turn 122 = .ok (.getfield 7, 3) := by decide +kernel
theorem dX7_turn_125 : decode cX7_turn 125 = .ok (.iconst 3, 1) := by decide +kernel
theorem dX7_turn_126 : decode cX7_turn 126 = .ok (.iaload, 1) := by decide +kernel
theorem dX7_turn_127 : decode cX7_turn 127 = .ok (.if_icmp .ne 7, 3) := by decide +kernel
theorem dX7_turn_130 : decode cX7_turn 130 = .ok (.iconst 1, 1) := by decide +kernel
theorem dX7_turn_131 : decode cX7_turn 131 = .ok (.goto 4, 3) := by decide +kernel
theorem dX7_turn_134 : decode cX7_turn 134 = .ok (.iconst 0, 1) := by decide +kernel
theorem dX7_turn_135 : decode cX7_turn 135 = .ok (.istore 5, 2) := by decide +kernel
theorem dX7_turn_137 : decode cX7_turn 137 = .ok (.iload_n 1, 1) := by decide +kernel
theorem dX7_turn_138 : decode cX7_turn 138 = .ok (.iload 5, 2) := by decide +kernel
theorem dX7_turn_140 : decode cX7_turn 140 = .ok (.ifCond .eq 17, 3) := by decide +kernel
theorem dX7_turn_143 : decode cX7_turn 143 = .ok (.aload_n 0, 1) := by decide +kernel
theorem dX7_turn_144 : decode cX7_turn 144 = .ok (.iload 4, 2) := by decide +kernel
theorem dX7_turn_146 : decode cX7_turn 146 = .ok (.iload_n 3, 1) := by decide +kernel
theorem dX7_turn_147 : decode cX7_turn 147 = .ok (.invokevirtual 80, 3) := by decide +kernel
theorem dX7_turn_150 : decode cX7_turn 150 = .ok (.ifCond .eq 7, 3) := by decide +kernel
theorem dX7_turn_153 : decode cX7_turn 153 = .ok (.iconst 1, 1) := by decide +kernel
theorem dX7_turn_154 : decode cX7_turn 154 = .ok (.goto 4, 3) := by decide +kernel
theorem dX7_turn_157 : decode cX7_turn 157 = .ok (.iconst 0, 1) := by decide +kernel
theorem dX7_turn_158 : decode cX7_turn 158 = .ok (.iadd, 1) := by decide +kernel
theorem dX7_turn_159 : decode cX7_turn 159 = .ok (.istore_n 1, 1) := by decide +kernel
theorem dX7_turn_160 : decode cX7_turn 160 = .ok (.iinc 4 1, 3) := by decide +kernel
theorem dX7_turn_163 : decode cX7_turn 163 = .ok (.goto (-72), 3) := by decide +kernel
theorem dX7_turn_166 : decode cX7_turn 166 = .ok (.iinc 2 1, 3) := by decide +kernel
theorem dX7_turn_169 : decode cX7_turn 169 = .ok (.goto (-112), 3) := by decide +kernel
theorem dX7_turn_172 : decode cX7_turn 172 = .ok (.aload_n 0, 1) := by decide +kernel
theorem dX7_turn_173 : decode cX7_turn 173 = .ok (.invokevirtual 84, 3) := by decide +kernel
theorem dX7_turn_176 : decode cX7_turn 176 = .ok (.iload_n 1, 1) := by decide +kernel
theorem dX7_turn_177 : decode cX7_turn 177 = .ok (.ireturn, 1) := by decide +kernel
theorem dX7_doesPass_0 : decode cX7_doesPass 0 = .ok (.iconst 0, 1) := by decide +kernel
theorem dX7_doesPass_1 : decode cX7_doesPass 1 = .ok (.istore_n 2, 1) := by decide +kernel
theorem dX7_doesPass_2 : decode cX7_doesPass 2 = .ok (.iconst 0, 1) := by decide +kernel
theorem dX7_doesPass_3 : decode cX7_doesPass 3 = .ok (.istore_n 3, 1) := by decide +kernel
theorem dX7_doesPass_4 : decode cX7_doesPass 4 = .ok (.iload_n 3, 1) := by decide +kernel
theorem dX7_doesPass_5 : decode cX7_doesPass 5 = .ok (.iload_n 1, 1) := by decide +kernel
theorem dX7_doesPass_6 : decode cX7_doesPass 6 = .ok (.if_icmp .ge 16, 3) := by decide +kernel
theorem dX7_doesPass_9 : decode cX7_doesPass 9 = .ok (.iload_n 2, 1) := by decide +kernel
theorem dX7_doesPass_10 : decode cX7_doesPass 10 = .ok (.aload_n 0, 1) := by decide +kernel
theorem dX7_doesPass_11 : decode cX7_doesPass 11 = .ok (.invokevirtual 87, 3) := by decide +kernel
theorem dX7_doesPass_14 : decode cX7_doesPass 14 = .ok (.iadd, 1) := by decide +kernel
theorem dX7_doesPass_15 : decode cX7_doesPass 15 = .ok (.istore_n 2, 1) := by decide +kernel
theorem dX7_doesPass_16 : decode cX7_doesPass 16 = .ok (.iinc 3 1, 3) := by decide +kernel
theorem dX7_doesPass_19 : decode cX7_doesPass 19 = .ok (.goto (-15), 3) := by decide +kernel
theorem dX7_doesPass_22 : decode cX7_doesPass 22 = .ok (.iload_n 2, 1) := by decide +kernel
theorem dX7_doesPass_23 : decode cX7_doesPass 23 = .ok (.ireturn, 1) := by decide +kernel
theorem dX7_call_0 : decode cX7_call 0 = .ok (.aload_n 0, 1) := by decide +kernel
theorem dX7_call_1 : decode cX7_call 1 = .ok (.iconst 0, 1) := by decide +kernel
theorem dX7_call_2 : decode cX7_call 2 = .ok (.putfield 25, 3) := by decide +kernel
theorem dX7_call_5 : decode cX7_call 5 = .ok (.iload_n 1, 1) := by decide +kernel
theorem dX7_call_6 : decode cX7_call 6 = .ok (.invokestatic 91, 3) := by decide +kernel
theorem dX7_call_9 : decode cX7_call 9 = .ok (.ifCond .ne 9, 3) := by decide +kernel
theorem dX7_call_12 : decode cX7_call 12 = .ok (.aload_n 0, 1) := by decide +kernel
theorem dX7_call_13 : decode cX7_call 13 = .ok (.iconst 1, 1) := by decide +kernel
theorem dX7_call_14 : decode cX7_call 14 = .ok (.invokevirtual 40, 3) := by decide +kernel
theorem dX7_call_17 : decode cX7_call 17 = .ok (.ireturn, 1) := by decide +kernel
theorem dX7_call_18 : decode cX7_call 18 = .ok (.iload_n 2, 1) := by decide +kernel
theorem dX7_call_19 : decode cX7_call 19 = .ok (.iconst 0, 1) := by decide +kernel
theorem dX7_call_20 : decode cX7_call 20 = .ok (.bipush 9, 2) := by decide +kernel
theorem dX7_call_22 : decode cX7_call 22 = .ok (.invokestatic 29, 3) := by decide +kernel
theorem dX7_call_25 : decode cX7_call 25 = .ok (.ifCond .ne 9, 3) := by decide +kernel
theorem dX7_call_28 : decode cX7_call 28 = .ok (.aload_n 0, 1) := by decide +kernel
theorem dX7_call_29 : decode cX7_call 29 = .ok (.iconst 2, 1) := by decide +kernel
theorem dX7_call_30 : decode cX7_call 30 = .ok (.invokevirtual 40, 3) := by decide +kernel
theorem dX7_call_33 : decode cX7_call 33 = .ok (.ireturn, 1) := by decide +kernel
theorem dX7_call_34 : decode cX7_call 34 = .ok (.aload_n 0, 1) := by decide +kernel
theorem dX7_call_35 : decode cX7_call 35 = .ok (.invokevirtual 44, 3) := by decide +kernel
theorem dX7_call_38 : decode cX7_call 38 = .ok (.aload_n 0, 1) := by decide +kernel
theorem dX7_call_39 : decode cX7_call 39 = .ok (.iload_n 1, 1) := by decide +kernel
theorem dX7_call_40 : decode cX7_call 40 = .ok (.iload_n 2, 1) := by decide +kernel
theorem dX7_call_41 : decode cX7_call 41 = .ok (.invokevirtual 95, 3) := by decide +kernel
theorem dX7_call_44 : decode cX7_call 44 = .ok (.ireturn, 1) := by decide +kernel
theorem dX7_walk_0 : decode cX7_walk 0 = .ok (.aload_n 0, 1) := by decide +kernel
theorem dX7_walk_1 : decode cX7_walk 1 = .ok (.iconst 0, 1) := by decide +kernel
theorem dX7_walk_2 : decode cX7_walk 2 = .ok (.putfield 25, 3) := by decide +kernel
theorem dX7_walk_5 : decode cX7_walk 5 = .ok (.iload_n 1, 1) := by decide +kernel
theorem dX7_walk_6 : decode cX7_walk 6 = .ok (.invokestatic 91, 3) := by decide +kernel
theorem dX7_walk_9 : decode cX7_walk 9 = .ok (.ifCond .ne 9, 3) := by decide +kernel
theorem dX7_walk_12 : decode cX7_walk 12 = .ok (.aload_n 0, 1) := by decide +kernel
theorem dX7_walk_13 : decode cX7_walk 13 = .ok (.iconst 1, 1) := by decide +kernel
theorem dX7_walk_14 : decode cX7_walk 14 = .ok (.invokevirtual 40, 3) := by decide +kernel
theorem dX7_walk_17 : decode cX7_walk 17 = .ok (.ireturn, 1) := by decide +kernel
theorem dX7_walk_18 : decode cX7_walk 18 = .ok (.iload_n 2, 1) := by decide +kernel
theorem dX7_walk_19 : decode cX7_walk 19 = .ok (.bipush (-9), 2) := by decide +kernel
theorem dX7_walk_21 : decode cX7_walk 21 = .ok (.bipush 9, 2) := by decide +kernel
theorem dX7_walk_23 : decode cX7_walk 23 = .ok (.invokestatic 29, 3) := by decide +kernel
theorem dX7_walk_26 : decode cX7_walk 26 = .ok (.ifCond .ne 9, 3) := by decide +kernel
theorem dX7_walk_29 : decode cX7_walk 29 = .ok (.aload_n 0, 1) := by decide +kernel
theorem dX7_walk_30 : decode cX7_walk 30 = .ok (.iconst 2, 1) := by decide +kernel
theorem dX7_walk_31 : decode cX7_walk 31 = .ok (.invokevirtual 40, 3) := by decide +kernel
theorem dX7_walk_34 : decode cX7_walk 34 = .ok (.ireturn, 1) := by decide +kernel
theorem dX7_walk_35 : decode cX7_walk 35 = .ok (.aload_n 0, 1) := by decide +kernel
theorem dX7_walk_36 : decode cX7_walk 36 = .ok (.invokevirtual 44, 3) := by decide +kernel
theorem dX7_walk_39 : decode cX7_walk 39 = .ok (.aload_n 0, 1) := by decide +kernel
theorem dX7_walk_40 : decode cX7_walk 40 = .ok (.iload_n 1, 1) := by decide +kernel
theorem dX7_walk_41 : decode cX7_walk 41 = .ok (.iload_n 2, 1) := by decide +kernel
theorem dX7_walk_42 : decode cX7_walk 42 = .ok (.invokevirtual 98, 3) := by decide +kernel
theorem dX7_walk_45 : decode cX7_walk 45 = .ok (.ireturn, 1) := by decide +kernel
theorem dX7_throwBall_0 : decode cX7_throwBall 0 = .ok (.aload_n 0, 1) := by decide +kernel
theorem dX7_throwBall_1 : decode cX7_throwBall 1 = .ok (.iconst 0, 1) := by decide +kernel
theorem dX7_throwBall_2 : decode cX7_throwBall 2 = .ok (.putfield 25, 3) := by decide +kernel
theorem dX7_throwBall_5 : decode cX7_throwBall 5 = .ok (.iload_n 1, 1) := by decide +kernel
theorem dX7_throwBall_6 : decode cX7_throwBall 6 = .ok (.iconst 0, 1) := by decide +kernel
theorem dX7_throwBall_7 : decode cX7_throwBall 7 = .ok (.aload_n 0, 1) := by decide +kernel
theorem dX7_throwBall_8 : decode cX7_throwBall 8 = .ok (.getfield 7, 3) := by decide +kernel
theorem dX7_throwBall_11 : decode cX7_throwBall 11 = .ok (.iconst 0, 1) := by decide +kernel
theorem dX7_throwBall_12 : decode cX7_throwBall 12 = .ok (.iaload, 1) := by decide +kernel
theorem dX7_throwBall_13 : decode cX7_throwBall 13 = .ok (.invokestatic 29, 3) := by decide +kernel
theorem dX7_throwBall_16 : decode cX7_throwBall 16 = .ok (.ifCond .eq 13, 3) := by decide +kernel
theorem dX7_throwBall_19 : decode cX7_throwBall 19 = .ok (.iload_n 2, 1) := by decide +kernel
theorem dX7_throwBall_20 : decode cX7_throwBall 20 = .ok (.iconst 1, 1) := by decide +kernel
theorem dX7_throwBall_21 : decode cX7_throwBall 21 = .ok (.bipush 9, 2) := by decide +kernel
theorem dX7_throwBall_23 : decode cX7_throwBall 23 = .ok (.invokestatic 29, 3) := by decide +kernel
theorem dX7_throwBall_26 : decode cX7_throwBall 26 = .ok (.ifCond .ne 9, 3) := by decide +kernel
theorem dX7_throwBall_29 : decode cX7_throwBall 29 = .ok (.aload_n 0, 1) := by decide +kernel
theorem dX7_throwBall_30 : decode cX7_throwBall 30 = .ok (.iconst 1, 1) := by decide +kernel
theorem dX7_throwBall_31 : decode cX7_throwBall 31 = .ok (.invokevirtual 40, 3) := by decide +kernel
theorem dX7_throwBall_34 : decode cX7_throwBall 34 = .ok (.ireturn, 1) := by decide +kernel
theorem dX7_throwBall_35 : decode cX7_throwBall 35 = .ok (.aload_n 0, 1) := by decide +kernel
theorem dX7_throwBall_36 : decode cX7_throwBall 36 = .ok (.invokevirtual 44, 3) := by decide +kernel
theorem dX7_throwBall_39 : decode cX7_throwBall 39 = .ok (.aload_n 0, 1) := by decide +kernel
theorem dX7_throwBall_40 : decode cX7_throwBall 40 = .ok (.getfield 7, 3) := by decide +kernel
theorem dX7_throwBall_43 : decode cX7_throwBall 43 = .ok (.iconst 4, 1) := by decide +kernel
theorem dX7_throwBall_44 : decode cX7_throwBall 44 = .ok (.iaload, 1) := by decide +kernel
theorem dX7_throwBall_45 : decode cX7_throwBall 45 = .ok (.istore 4, 2) := by decide +kernel
theorem dX7_throwBall_47 : decode cX7_throwBall 47 = .ok (.aload_n 0, 1) := by decide +kernel
theorem dX7_throwBall_48 : decode cX7_throwBall 48 = .ok (.getfield 7, 3) := by decide +kernel
theorem dX7_throwBall_51 : decode cX7_throwBall 51 = .ok (.iconst 4, 1) := by decide +kernel
theorem dX7_throwBall_52 : decode cX7_throwBall 52 = .ok (.iload_n 1, 1) := by decide +kernel
theorem dX7_throwBall_53 : decode cX7_throwBall 53 = .ok (.iastore, 1) := by decide +kernel
theorem dX7_throwBall_54 : decode cX7_throwBall 54 = .ok (.aload_n 0, 1) := by decide +kernel
theorem dX7_throwBall_55 : decode cX7_throwBall 55 = .ok (.getfield 7, 3) := by decide +kernel
theorem dX7_throwBall_58 : decode cX7_throwBall 58 = .ok (.iconst 5, 1) := by decide +kernel
theorem dX7_throwBall_59 : decode cX7_throwBall 59 = .ok (.iload_n 2, 1) := by decide +kernel
theorem dX7_throwBall_60 : decode cX7_throwBall 60 = .ok (.iastore, 1) := by decide +kernel
theorem dX7_throwBall_61 : decode cX7_throwBall 61 = .ok (.aload_n 0, 1) := by decide +kernel
theorem dX7_throwBall_62 : decode cX7_throwBall 62 = .ok (.getfield 7, 3) := by decide +kernel
theorem dX7_throwBall_65 : decode cX7_throwBall 65 = .ok (.bipush 6, 2) := by decide +kernel
theorem dX7_throwBall_67 : decode cX7_throwBall 67 = .ok (.iload_n 3, 1) := by decide +kernel
theorem dX7_throwBall_68 : decode cX7_throwBall 68 = .ok (.ifCond .eq 7, 3) := by decide +kernel
theorem dX7_throwBall_71 : decode cX7_throwBall 71 = .ok (.iconst 1, 1) := by decide +kernel
theorem dX7_throwBall_72 : decode cX7_throwBall 72 = .ok (.goto 4, 3) := by decide +kernel
theorem dX7_throwBall_75 : decode cX7_throwBall 75 = .ok (.iconst 0, 1) := by decide +kernel
theorem dX7_throwBall_76 : decode cX7_throwBall 76 = .ok (.iastore, 1) := by decide +kernel
theorem dX7_throwBall_77 : decode cX7_throwBall 77 = .ok (.iload 4, 2) := by decide +kernel
theorem dX7_throwBall_79 : decode cX7_throwBall 79 = .ok (.ireturn, 1) := by decide +kernel
theorem dX7_hasRoom_0 : decode cX7_hasRoom 0 = .ok (.aload_n 0, 1) := by decide +kernel
theorem dX7_hasRoom_1 : decode cX7_hasRoom 1 = .ok (.getfield 7, 3) := by decide +kernel
theorem dX7_hasRoom_4 : decode cX7_hasRoom 4 = .ok (.iconst 4, 1) := by decide +kernel
theorem dX7_hasRoom_5 : decode cX7_hasRoom 5 = .ok (.iaload, 1) := by decide +kernel
theorem dX7_hasRoom_6 : decode cX7_hasRoom 6 = .ok (.iload_n 1, 1) := by decide +kernel
theorem dX7_hasRoom_7 : decode cX7_hasRoom 7 = .ok (.if_icmp .gt 7, 3) := by decide +kernel
theorem dX7_hasRoom_10 : decode cX7_hasRoom 10 = .ok (.iconst 1, 1) := by decide +kernel
theorem dX7_hasRoom_11 : decode cX7_hasRoom 11 = .ok (.goto 4, 3) := by decide +kernel
theorem dX7_hasRoom_14 : decode cX7_hasRoom 14 = .ok (.iconst 0, 1) := by decide +kernel
theorem dX7_hasRoom_15 : decode cX7_hasRoom 15 = .ok (.istore_n 2, 1) := by decide +kernel
theorem dX7_hasRoom_16 : decode cX7_hasRoom 16 = .ok (.iconst 0, 1) := by decide +kernel
theorem dX7_hasRoom_17 : decode cX7_hasRoom 17 = .ok (.istore_n 3, 1) := by decide +kernel
theorem dX7_hasRoom_18 : decode cX7_hasRoom 18 = .ok (.iload_n 3, 1) := by decide +kernel
theorem dX7_hasRoom_19 : decode cX7_hasRoom 19 = .ok (.iconst 4, 1) := by decide +kernel
theorem dX7_hasRoom_20 : decode cX7_hasRoom 20 = .ok (.if_icmp .ge 29, 3) := by decide +kernel
theorem dX7_hasRoom_23 : decode cX7_hasRoom 23 = .ok (.iload_n 2, 1) := by decide +kernel
theorem dX7_hasRoom_24 : decode cX7_hasRoom 24 = .ok (.ifCond .eq 17, 3) := by decide +kernel
theorem dX7_hasRoom_27 : decode cX7_hasRoom 27 = .ok (.aload_n 0, 1) := by decide +kernel
theorem dX7_hasRoom_28 : decode cX7_hasRoom 28 = .ok (.iload_n 3, 1) := by decide +kernel
theorem dX7_hasRoom_29 : decode cX7_hasRoom 29 = .ok (.iconst 0, 1) := by decide +kernel
theorem dX7_hasRoom_30 : decode cX7_hasRoom 30 = .ok (.invokevirtual 33, 3) := by decide +kernel
theorem dX7_hasRoom_33 : decode cX7_hasRoom 33 = .ok (.iload_n 1, 1) := by decide +kernel
theorem dX7_hasRoom_34 : decode cX7_hasRoom 34 = .ok (.if_icmp .gt 7, 3) := by decide +kernel
theorem dX7_hasRoom_37 : decode cX7_hasRoom 37 = .ok (.iconst 1, 1) := by decide +kernel
theorem dX7_hasRoom_38 : decode cX7_hasRoom 38 = .ok (.goto 4, 3) := by decide +kernel
theorem dX7_hasRoom_41 : decode cX7_hasRoom 41 = .ok (.iconst 0, 1) := by decide +kernel
theorem dX7_hasRoom_42 : decode cX7_hasRoom 42 = .ok (.istore_n 2, 1) := by decide +kernel
theorem dX7_hasRoom_43 : decode cX7_hasRoom 43 = .ok (.iinc 3 1, 3) := by decide +kernel
theorem dX7_hasRoom_46 : decode cX7_hasRoom 46 = .ok (.goto (-28), 3) := by decide +kernel
theorem dX7_hasRoom_49 : decode cX7_hasRoom 49 = .ok (.iconst 0, 1) := by decide +kernel
theorem dX7_hasRoom_50 : decode cX7_hasRoom 50 = .ok (.istore_n 3, 1) := by decide +kernel
theorem dX7_hasRoom_51 : decode cX7_hasRoom 51 = .ok (.iload_n 3, 1) := by decide +kernel
theorem dX7_hasRoom_52 : decode cX7_hasRoom 52 = .ok (.aload_n 0, 1) := by decide +kernel
theorem dX7_hasRoom_53 : decode cX7_hasRoom 53 = .ok (.getfield 7, 3) := by decide +kernel
theorem dX7_hasRoom_56 : decode cX7_hasRoom 56 = .ok (.bipush 9, 2) := by decide +kernel
theorem dX7_hasRoom_58 : decode cX7_hasRoom 58 = .ok (.iaload, 1) := by decide +kernel
theorem dX7_hasRoom_59 : decode cX7_hasRoom 59 = .ok (.if_icmp .ge 29, 3) := by decide +kernel
theorem dX7_hasRoom_62 : decode cX7_hasRoom 62 = .ok (.iload_n 2, 1) := by decide +kernel
theorem dX7_hasRoom_63 : decode cX7_hasRoom 63 = .ok (.ifCond .eq 17, 3) := by decide +kernel
theorem dX7_hasRoom_66 : decode cX7_hasRoom 66 = .ok (.aload_n 0, 1) := by decide +kernel
theorem dX7_hasRoom_67 : decode cX7_hasRoom 67 = .ok (.iload_n 3, 1) := by decide +kernel
theorem dX7_hasRoom_68 : decode cX7_hasRoom 68 = .ok (.iconst 1, 1) := by decide +kernel
theorem dX7_hasRoom_69 : decode cX7_hasRoom 69 = .ok (.invokevirtual 54, 3) := by decide +kernel
theorem dX7_hasRoom_72 : decode cX7_hasRoom 72 = .ok (.iload_n 1, 1) := by decide +kernel
theorem dX7_hasRoom_73 : decode cX7_hasRoom 73 = .ok (.if_icmp .gt 7, 3) := by decide +kernel
theorem dX7_hasRoom_76 : decode cX7_hasRoom 76 = .ok (.iconst 1, 1) := by decide +kernel
theorem dX7_hasRoom_77 : decode cX7_hasRoom 77 = .ok (.goto 4, 3) := by decide +kernel
theorem dX7_hasRoom_80 : decode cX7_hasRoom 80 = .ok (.iconst 0, 1) := by decide +kernel
theorem dX7_hasRoom_81 : decode cX7_hasRoom 81 = .ok (.istore_n 2, 1) := by decide +kernel
theorem dX7_hasRoom_82 : decode cX7_hasRoom 82 = .ok (.iinc 3 1, 3) := by decide +kernel
theorem dX7_hasRoom_85 : decode cX7_hasRoom 85 = .ok (.goto (-34), 3) := by decide +kernel
theorem dX7_hasRoom_88 : decode cX7_hasRoom 88 = .ok (.iload_n 2, 1) := by decide +kernel
theorem dX7_hasRoom_89 : decode cX7_hasRoom 89 = .ok (.ireturn, 1) := by decide +kernel
theorem dX7_set_0 : decode cX7_set 0 = .ok (.aload_n 0, 1) := by decide +kernel
theorem dX7_set_1 : decode cX7_set 1 = .ok (.iconst 0, 1) := by decide +kernel
theorem dX7_set_2 : decode cX7_set 2 = .ok (.putfield 25, 3) := by decide +kernel
theorem dX7_set_5 : decode cX7_set 5 = .ok (.iload_n 1, 1) := by decide +kernel
theorem dX7_set_6 : decode cX7_set 6 = .ok (.iconst 0, 1) := by decide +kernel
theorem dX7_set_7 : decode cX7_set 7 = .ok (.iconst 2, 1) := by decide +kernel
theorem dX7_set_8 : decode cX7_set 8 = .ok (.invokestatic 29, 3) := by decide +kernel
theorem dX7_set_11 : decode cX7_set 11 = .ok (.ifCond .ne 9, 3) := by decide +kernel
theorem dX7_set_14 : decode cX7_set 14 = .ok (.aload_n 0, 1) := by decide +kernel
theorem dX7_set_15 : decode cX7_set 15 = .ok (.iconst 1, 1) := by decide +kernel
theorem dX7_set_16 : decode cX7_set 16 = .ok (.invokevirtual 40, 3) := by decide +kernel
theorem dX7_set_19 : decode cX7_set 19 = .ok (.ireturn, 1) := by decide +kernel
theorem dX7_set_20 : decode cX7_set 20 = .ok (.iload_n 1, 1) := by decide +kernel
theorem dX7_set_21 : decode cX7_set 21 = .ok (.ifCond .ne 8, 3) := by decide +kernel
theorem dX7_set_24 : decode cX7_set 24 = .ok (.bipush 8, 2) := by decide +kernel
theorem dX7_set_26 : decode cX7_set 26 = .ok (.goto 13, 3) := by decide +kernel
theorem dX7_set_29 : decode cX7_set 29 = .ok (.iload_n 1, 1) := by decide +kernel
theorem dX7_set_30 : decode cX7_set 30 = .ok (.iconst 1, 1) := by decide +kernel
theorem dX7_set_31 : decode cX7_set 31 = .ok (.if_icmp .ne 7, 3) := by decide +kernel
theorem dX7_set_34 : decode cX7_set 34 = .ok (.iconst 1, 1) := by decide +kernel
theorem dX7_set_35 : decode cX7_set 35 = .ok (.goto 4, 3) := by decide +kernel
theorem dX7_set_38 : decode cX7_set 38 = .ok (.iconst 0, 1) := by decide +kernel
theorem dX7_set_39 : decode cX7_set 39 = .ok (.istore_n 3, 1) := by decide +kernel
theorem dX7_set_40 : decode cX7_set 40 = .ok (.iload_n 1, 1) := by decide +kernel
theorem dX7_set_41 : decode cX7_set 41 = .ok (.ifCond .ne 8, 3) := by decide +kernel
theorem dX7_set_44 : decode cX7_set 44 = .ok (.bipush 40, 2) := by decide +kernel
theorem dX7_set_46 : decode cX7_set 46 = .ok (.goto 14, 3) := by decide +kernel
theorem dX7_set_49 : decode cX7_set 49 = .ok (.iload_n 1, 1) := by decide +kernel
theorem dX7_set_50 : decode cX7_set 50 = .ok (.iconst 1, 1) := by decide +kernel
theorem dX7_set_51 : decode cX7_set 51 = .ok (.if_icmp .ne 8, 3) := by decide +kernel
theorem dX7_set_54 : decode cX7_set 54 = .ok (.bipush 9, 2) := by decide +kernel
theorem dX7_set_56 : decode cX7_set 56 = .ok (.goto 4, 3) := by decide +kernel
theorem dX7_set_59 : decode cX7_set 59 = .ok (.iconst 5, 1) := by decide +kernel
theorem dX7_set_60 : decode cX7_set 60 = .ok (.istore 4, 2) := by decide +kernel
theorem dX7_set_62 : decode cX7_set 62 = .ok (.iload_n 2, 1) := by decide +kernel
theorem dX7_set_63 : decode cX7_set 63 = .ok (.iload_n 3, 1) := by decide +kernel
theorem dX7_set_64 : decode cX7_set 64 = .ok (.iload 4, 2) := by decide +kernel
theorem dX7_set_66 : decode cX7_set 66 = .ok (.invokestatic 29, 3) := by decide +kernel
theorem dX7_set_69 : decode cX7_set 69 = .ok (.ifCond .ne 9, 3) := by decide +kernel
theorem dX7_set_72 : decode cX7_set 72 = .ok (.aload_n 0, 1) := by decide +kernel
theorem dX7_set_73 : decode cX7_set 73 = .ok (.iconst 2, 1) := by decide +kernel
theorem dX7_set_74 : decode cX7_set 74 = .ok (.invokevirtual 40, 3) := by decide +kernel
theorem dX7_set_77 : decode cX7_set 77 = .ok (.ireturn, 1) := by decide +kernel
theorem dX7_set_78 : decode cX7_set 78 = .ok (.iload_n 1, 1) := by decide +kernel
theorem dX7_set_79 : decode cX7_set 79 = .ok (.ifCond .ne 17, 3) := by decide +kernel
theorem dX7_set_82 : decode cX7_set 82 = .ok (.aload_n 0, 1) := by decide +kernel
theorem dX7_set_83 : decode cX7_set 83 = .ok (.iload_n 2, 1) := by decide +kernel
theorem dX7_set_84 : decode cX7_set 84 = .ok (.invokevirtual 101, 3) := by decide +kernel
theorem dX7_set_87 : decode cX7_set 87 = .ok (.ifCond .ne 9, 3) := by decide +kernel
theorem dX7_set_90 : decode cX7_set 90 = .ok (.aload_n 0, 1) := by decide +kernel
theorem dX7_set_91 : decode cX7_set 91 = .ok (.iconst 3, 1) := by decide +kernel
theorem dX7_set_92 : decode cX7_set 92 = .ok (.invokevirtual 40, 3) := by decide +kernel
theorem dX7_set_95 : decode cX7_set 95 = .ok (.ireturn, 1) := by decide +kernel
theorem dX7_set_96 : decode cX7_set 96 = .ok (.aload_n 0, 1) := by decide +kernel
theorem dX7_set_97 : decode cX7_set 97 = .ok (.invokevirtual 44, 3) := by decide +kernel
theorem dX7_set_100 : decode cX7_set 100 = .ok (.aload_n 0, 1) := by decide +kernel
theorem dX7_set_101 : decode cX7_set 101 = .ok (.getfield 7, 3) := by decide +kernel
theorem dX7_set_104 : decode cX7_set 104 = .ok (.iload_n 1, 1) := by decide +kernel
theorem dX7_set_105 : decode cX7_set 105 = .ok (.iaload, 1) := by decide +kernel
theorem dX7_set_106 : decode cX7_set 106 = .ok (.istore 5, 2) := by decide +kernel
theorem dX7_set_108 : decode cX7_set 108 = .ok (.aload_n 0, 1) := by decide +kernel
theorem dX7_set_109 : decode cX7_set 109 = .ok (.getfield 7, 3) := by decide +kernel
theorem dX7_set_112 : decode cX7_set 112 = .ok (.iload_n 1, 1) := by decide +kernel
theorem dX7_set_113 : decode cX7_set 113 = .ok (.iload_n 2, 1) := by decide +kernel
theorem dX7_set_114 : decode cX7_set 114 = .ok (.iastore, 1) := by decide +kernel
theorem dX7_set_115 : decode cX7_set 115 = .ok (.iload 5, 2) := by decide +kernel
theorem dX7_set_117 : decode cX7_set 117 = .ok (.ireturn, 1) := by decide +kernel
theorem dX7_pass_0 : decode cX7_pass 0 = .ok (.aload_n 0, 1) := by decide +kernel
theorem dX7_pass_1 : decode cX7_pass 1 = .ok (.iconst 0, 1) := by decide +kernel
theorem dX7_pass_2 : decode cX7_pass 2 = .ok (.putfield 25, 3) := by decide +kernel
theorem dX7_pass_5 : decode cX7_pass 5 = .ok (.iload_n 1, 1) := by decide +kernel
theorem dX7_pass_6 : decode cX7_pass 6 = .ok (.iconst 1, 1) := by decide +kernel
theorem dX7_pass_7 : decode cX7_pass 7 = .ok (.bipush 99, 2) := by decide +kernel
theorem dX7_pass_9 : decode cX7_pass 9 = .ok (.invokestatic 29, 3) := by decide +kernel
theorem dX7_pass_12 : decode cX7_pass 12 = .ok (.ifCond .ne 9, 3) := by decide +kernel
theorem dX7_pass_15 : decode cX7_pass 15 = .ok (.aload_n 0, 1) := by decide +kernel
theorem dX7_pass_16 : decode cX7_pass 16 = .ok (.iconst 1, 1) := by decide +kernel
theorem dX7_pass_17 : decode cX7_pass 17 = .ok (.invokevirtual 40, 3) := by decide +kernel
theorem dX7_pass_20 : decode cX7_pass 20 = .ok (.ireturn, 1) := by decide +kernel
theorem dX7_pass_21 : decode cX7_pass 21 = .ok (.aload_n 0, 1) := by decide +kernel
theorem dX7_pass_22 : decode cX7_pass 22 = .ok (.getfield 7, 3) := by decide +kernel
theorem dX7_pass_25 : decode cX7_pass 25 = .ok (.iconst 3, 1) := by decide +kernel
theorem dX7_pass_26 : decode cX7_pass 26 = .ok (.iaload, 1) := by decide +kernel
theorem dX7_pass_27 : decode cX7_pass 27 = .ok (.iload_n 1, 1) := by decide +kernel
theorem dX7_pass_28 : decode cX7_pass 28 = .ok (.iadd, 1) := by decide +kernel
theorem dX7_pass_29 : decode cX7_pass 29 = .ok (.ldc 104, 2) := by decide +kernel
theorem dX7_pass_31 : decode cX7_pass 31 = .ok (.if_icmp .le 9, 3) := by decide +kernel
theorem dX7_pass_34 : decode cX7_pass 34 = .ok (.aload_n 0, 1) := by decide +kernel
theorem dX7_pass_35 : decode cX7_pass 35 = .ok (.iconst 2, 1) := by decide +kernel
theorem dX7_pass_36 : decode cX7_pass 36 = .ok (.invokevirtual 40, 3) := by decide +kernel
theorem dX7_pass_39 : decode cX7_pass 39 = .ok (.ireturn, 1) := by decide +kernel
theorem dX7_pass_40 : decode cX7_pass 40 = .ok (.aload_n 0, 1) := by decide +kernel
theorem dX7_pass_41 : decode cX7_pass 41 = .ok (.invokevirtual 44, 3) := by decide +kernel
theorem dX7_pass_44 : decode cX7_pass 44 = .ok (.aload_n 0, 1) := by decide +kernel
theorem dX7_pass_45 : decode cX7_pass 45 = .ok (.iload_n 1, 1) := by decide +kernel
theorem dX7_pass_46 : decode cX7_pass 46 = .ok (.invokevirtual 105, 3) := by decide +kernel
theorem dX7_pass_49 : decode cX7_pass 49 = .ok (.ireturn, 1) := by decide +kernel
theorem dX7_append_0 : decode cX7_append 0 = .ok (.aload_n 0, 1) := by decide +kernel
theorem dX7_append_1 : decode cX7_append 1 = .ok (.iconst 0, 1) := by decide +kernel
theorem dX7_append_2 : decode cX7_append 2 = .ok (.putfield 25, 3) := by decide +kernel
theorem dX7_append_5 : decode cX7_append 5 = .ok (.iload_n 1, 1) := by decide +kernel
theorem dX7_append_6 : decode cX7_append 6 = .ok (.bipush 33, 2) := by decide +kernel
theorem dX7_append_8 : decode cX7_append 8 = .ok (.bipush 126, 2) := by decide +kernel
theorem dX7_append_10 : decode cX7_append 10 = .ok (.invokestatic 29, 3) := by decide +kernel
theorem dX7_append_13 : decode cX7_append 13 = .ok (.ifCond .ne 9, 3) := by decide +kernel
theorem dX7_append_16 : decode cX7_append 16 = .ok (.aload_n 0, 1) := by decide +kernel
theorem dX7_append_17 : decode cX7_append 17 = .ok (.iconst 1, 1) := by decide +kernel
theorem dX7_append_18 : decode cX7_append 18 = .ok (.invokevirtual 40, 3) := by decide +kernel
theorem dX7_append_21 : decode cX7_append 21 = .ok (.ireturn, 1) := by decide +kernel
theorem dX7_append_22 : decode cX7_append 22 = .ok (.aload_n 0, 1) := by decide +kernel
theorem dX7_append_23 : decode cX7_append 23 = .ok (.getfield 108, 3) := by decide +kernel
theorem dX7_append_26 : decode cX7_append 26 = .ok (.bipush 60, 2) := by decide +kernel
theorem dX7_append_28 : decode cX7_append 28 = .ok (.if_icmp .ne 9, 3) := by decide +kernel
theorem dX7_append_31 : decode cX7_append 31 = .ok (.aload_n 0, 1) := by decide +kernel
theorem dX7_append_32 : decode cX7_append 32 = .ok (.iconst 2, 1) := by decide +kernel
theorem dX7_append_33 : decode cX7_append 33 = .ok (.invokevirtual 40, 3) := by decide +kernel
theorem dX7_append_36 : decode cX7_append 36 = .ok (.ireturn, 1) := by decide +kernel
theorem dX7_append_37 : decode cX7_append 37 = .ok (.aload_n 0, 1) := by decide +kernel
theorem dX7_append_38 : decode cX7_append 38 = .ok (.getfield 22, 3) := by decide +kernel
theorem dX7_append_41 : decode cX7_append 41 = .ok (.aload_n 0, 1) := by decide +kernel
theorem dX7_append_42 : decode cX7_append 42 = .ok (.getfield 108, 3) := by decide +kernel
theorem dX7_append_45 : decode cX7_append 45 = .ok (.iload_n 1, 1) := by decide +kernel
theorem dX7_append_46 : decode cX7_append 46 = .ok (.iastore, 1) := by decide +kernel
theorem dX7_append_47 : decode cX7_append 47 = .ok (.aload_n 0, 1) := by decide +kernel
theorem dX7_append_48 : decode cX7_append 48 = .ok (.dup, 1) := by decide +kernel
theorem dX7_append_49 : decode cX7_append 49 = .ok (.getfield 108, 3) := by decide +kernel
theorem dX7_append_52 : decode cX7_append 52 = .ok (.iconst 1, 1) := by decide +kernel
theorem dX7_append_53 : decode cX7_append 53 = .ok (.iadd, 1) := by decide +kernel
theorem dX7_append_54 : decode cX7_append 54 = .ok (.putfield 108, 3) := by decide +kernel
theorem dX7_append_57 : decode cX7_append 57 = .ok (.aload_n 0, 1) := by decide +kernel
theorem dX7_append_58 : decode cX7_append 58 = .ok (.getfield 108, 3) := by decide +kernel
theorem dX7_append_61 : decode cX7_append 61 = .ok (.ireturn, 1) := by decide +kernel
theorem dX7_clearBuffer_0 : decode cX7_clearBuffer 0 = .ok (.aload_n 0, 1) := by decide +kernel
theorem dX7_clearBuffer_1 : decode cX7_clearBuffer 1 = .ok (.iconst 0, 1) := by decide +kernel
theorem dX7_clearBuffer_2 : decode cX7_clearBuffer 2 = .ok (.putfield 25, 3) := by decide +kernel
theorem dX7_clearBuffer_5 : decode cX7_clearBuffer 5 = .ok (.aload_n 0, 1) := by decide +kernel
theorem dX7_clearBuffer_6 : decode cX7_clearBuffer 6 = .ok (.getfield 108, 3) := by decide +kernel
theorem dX7_clearBuffer_9 : decode cX7_clearBuffer 9 = .ok (.istore_n 1, 1) := by decide +kernel
theorem dX7_clearBuffer_10 : decode cX7_clearBuffer 10 = .ok (.aload_n 0, 1) := by decide +kernel
theorem dX7_clearBuffer_11 : decode cX7_clearBuffer 11 = .ok (.iconst 0, 1) := by decide +kernel
theorem dX7_clearBuffer_12 : decode cX7_clearBuffer 12 = .ok (.putfield 108, 3) := by decide +kernel
theorem dX7_clearBuffer_15 : decode cX7_clearBuffer 15 = .ok (.iload_n 1, 1) := by decide +kernel
theorem dX7_clearBuffer_16 : decode cX7_clearBuffer 16 = .ok (.ireturn, 1) := by decide +kernel
theorem dX7_next_0 : decode cX7_next 0 = .ok (.aload_n 0, 1) := by decide +kernel
theorem dX7_next_1 : decode cX7_next 1 = .ok (.getfield 111, 3) := by decide +kernel
theorem dX7_next_4 : decode cX7_next 4 = .ok (.aload_n 0, 1) := by decide +kernel
theorem dX7_next_5 : decode cX7_next 5 = .ok (.getfield 108, 3) := by decide +kernel
theorem dX7_next_8 : decode cX7_next 8 = .ok (.if_icmp .ge 15, 3) := by decide +kernel
theorem dX7_next_11 : decode cX7_next 11 = .ok (.aload_n 0, 1) := by decide +kernel
theorem dX7_next_12 : decode cX7_next 12 = .ok (.getfield 22, 3) := by decide +kernel
theorem dX7_next_15 : decode cX7_next 15 = .ok (.aload_n 0, 1) := by decide +kernel
theorem dX7_next_16 : decode cX7_next 16 = .ok (.getfield 111, 3) := by decide +kernel
theorem dX7_next_19 : decode cX7_next 19 = .ok (.iaload, 1) := by decide +kernel
theorem dX7_next_20 : decode cX7_next 20 = .ok (.goto 4, 3) := by decide +kernel
theorem dX7_next_23 : decode cX7_next 23 = .ok (.iconst 0, 1) := by decide +kernel
theorem dX7_next_24 : decode cX7_next 24 = .ok (.ireturn, 1) := by decide +kernel
theorem dX7_digit_0 : decode cX7_digit 0 = .ok (.aload_n 0, 1) := by decide +kernel
theorem dX7_digit_1 : decode cX7_digit 1 = .ok (.invokevirtual 114, 3) := by decide +kernel
theorem dX7_digit_4 : decode cX7_digit 4 = .ok (.bipush 48, 2) := by decide +kernel
theorem dX7_digit_6 : decode cX7_digit 6 = .ok (.isub, 1) := by decide +kernel
theorem dX7_digit_7 : decode cX7_digit 7 = .ok (.istore_n 3, 1) := by decide +kernel
theorem dX7_digit_8 : decode cX7_digit 8 = .ok (.iload_n 3, 1) := by decide +kernel
theorem dX7_digit_9 : decode cX7_digit 9 = .ok (.iload_n 1, 1) := by decide +kernel
theorem dX7_digit_10 : decode cX7_digit 10 = .ok (.iload_n 2, 1) := by decide +kernel
theorem dX7_digit_11 : decode cX7_digit 11 = .ok (.invokestatic 29, 3) := by decide +kernel
theorem dX7_digit_14 : decode cX7_digit 14 = .ok (.ifCond .ne 5, 3) := by decide +kernel
theorem dX7_digit_17 : decode cX7_digit 17 = .ok (.iconst (-1), 1) := by decide +kernel
theorem dX7_digit_18 : decode cX7_digit 18 = .ok (.ireturn, 1) := by decide +kernel
theorem dX7_digit_19 : decode cX7_digit 19 = .ok (.aload_n 0, 1) := by decide +kernel
theorem dX7_digit_20 : decode cX7_digit 20 = .ok (.dup, 1) := by decide +kernel
theorem dX7_digit_21 : decode cX7_digit 21 = .ok (.getfield 111, 3) := by decide +kernel
theorem dX7_digit_24 : decode cX7_digit 24 = .ok (.iconst 1, 1) := by decide +kernel
theorem dX7_digit_25 : decode cX7_digit 25 = .ok (.iadd, 1) := by decide +kernel
theorem dX7_digit_26 : decode cX7_digit 26 = .ok (.putfield 111, 3) := by decide +kernel
theorem dX7_digit_29 : decode cX7_digit 29 = .ok (.iload_n 3, 1) := by decide +kernel
theorem dX7_digit_30 : decode cX7_digit 30 = .ok (.ireturn, 1) := by decide +kernel
theorem dX7_takes_0 : decode cX7_takes 0 = .ok (.aload_n 0, 1) := by decide +kernel
theorem dX7_takes_1 : decode cX7_takes 1 = .ok (.invokevirtual 114, 3) := by decide +kernel
theorem dX7_takes_4 : decode cX7_takes 4 = .ok (.iload_n 1, 1) := by decide +kernel
theorem dX7_takes_5 : decode cX7_takes 5 = .ok (.if_icmp .ne 7, 3) := by decide +kernel
theorem dX7_takes_8 : decode cX7_takes 8 = .ok (.iconst 1, 1) := by decide +kernel
theorem dX7_takes_9 : decode cX7_takes 9 = .ok (.goto 4, 3) := by decide +kernel
theorem dX7_takes_12 : decode cX7_takes 12 = .ok (.iconst 0, 1) := by decide +kernel
theorem dX7_takes_13 : decode cX7_takes 13 = .ok (.istore_n 2, 1) := by decide +kernel
theorem dX7_takes_14 : decode cX7_takes 14 = .ok (.aload_n 0, 1) := by decide +kernel
theorem dX7_takes_15 : decode cX7_takes 15 = .ok (.dup, 1) := by decide +kernel
theorem dX7_takes_16 : decode cX7_takes 16 = .ok (.getfield 111, 3) := by decide +kernel
theorem dX7_takes_19 : decode cX7_takes 19 = .ok (.iload_n 2, 1) := by decide +kernel
theorem dX7_takes_20 : decode cX7_takes 20 = .ok (.ifCond .eq 7, 3) := by decide +kernel
theorem dX7_takes_23 : decode cX7_takes 23 = .ok (.iconst 1, 1) := by decide +kernel
theorem dX7_takes_24 : decode cX7_takes 24 = .ok (.goto 4, 3) := by decide +kernel
theorem dX7_takes_27 : decode cX7_takes 27 = .ok (.iconst 0, 1) := by decide +kernel
theorem dX7_takes_28 : decode cX7_takes 28 = .ok (.iadd, 1) := by decide +kernel
theorem dX7_takes_29 : decode cX7_takes 29 = .ok (.putfield 111, 3) := by decide +kernel
theorem dX7_takes_32 : decode cX7_takes 32 = .ok (.iload_n 2, 1) := by decide +kernel
theorem dX7_takes_33 : decode cX7_takes 33 = .ok (.ireturn, 1) := by decide +kernel
theorem dX7_readsCall_0 : decode cX7_readsCall 0 = .ok (.aload_n 0, 1) := by decide +kernel
theorem dX7_readsCall_1 : decode cX7_readsCall 1 = .ok (.aload_n 0, 1) := by decide +kernel
theorem dX7_readsCall_2 : decode cX7_readsCall 2 = .ok (.iconst 0, 1) := by decide +kernel
theorem dX7_readsCall_3 : decode cX7_readsCall 3 = .ok (.iconst 3, 1) := by decide +kernel
theorem dX7_readsCall_4 : decode cX7_readsCall 4 = .ok (.invokevirtual 117, 3) := by decide +kernel
theorem dX7_readsCall_7 : decode cX7_readsCall 7 = .ok (.putfield 120, 3) := by decide +kernel
theorem dX7_readsCall_10 : decode cX7_readsCall 10 = .ok (.aload_n 0, 1) := by decide +kernel
theorem dX7_readsCall_11 : decode cX7_readsCall 11 = .ok (.getfield 120, 3) := by decide +kernel
theorem dX7_readsCall_14 : decode cX7_readsCall 14 = .ok (.iconst (-1), 1) := by decide +kernel
theorem dX7_readsCall_15 : decode cX7_readsCall 15 = .ok (.if_icmp .eq 12, 3) := by decide +kernel
theorem dX7_readsCall_18 : decode cX7_readsCall 18 = .ok (.aload_n 0, 1) := by decide +kernel
theorem dX7_readsCall_19 : decode cX7_readsCall 19 = .ok (.bipush 61, 2) := by decide +kernel
theorem dX7_readsCall_21 : decode cX7_readsCall 21 = .ok (.invokevirtual 123, 3) := by decide +kernel
theorem dX7_readsCall_24 : decode cX7_readsCall 24 = .ok (.ifCond .ne 5, 3) := by decide +kernel
theorem dX7_readsCall_27 : decode cX7_readsCall 27 = .ok (.iconst 0, 1) := by decide +kernel
theorem dX7_readsCall_28 : decode cX7_readsCall 28 = .ok (.ireturn, 1) := by decide +kernel
theorem dX7_readsCall_29 : decode cX7_readsCall 29 = .ok (.aload_n 0, 1) := by decide +kernel
theorem dX7_readsCall_30 : decode cX7_readsCall 30 = .ok (.aload_n 0, 1) := by decide +kernel
theorem dX7_readsCall_31 : decode cX7_readsCall 31 = .ok (.iconst 0, 1) := by decide +kernel
theorem dX7_readsCall_32 : decode cX7_readsCall 32 = .ok (.bipush 9, 2) := by decide +kernel
theorem dX7_readsCall_34 : decode cX7_readsCall 34 = .ok (.invokevirtual 117, 3) := by decide +kernel
theorem dX7_readsCall_37 : decode cX7_readsCall 37 = .ok (.putfield 126, 3) := by decide +kernel
theorem dX7_readsCall_40 : decode cX7_readsCall 40 = .ok (.aload_n 0, 1) := by decide +kernel
theorem dX7_readsCall_41 : decode cX7_readsCall 41 = .ok (.getfield 126, 3) := by decide +kernel
theorem dX7_readsCall_44 : decode cX7_readsCall 44 = .ok (.iconst (-1), 1) := by decide +kernel
theorem dX7_readsCall_45 : decode cX7_readsCall 45 = .ok (.if_icmp .eq 7, 3) := by decide +kernel
theorem dX7_readsCall_48 : decode cX7_readsCall 48 = .ok (.iconst 1, 1) := by decide +kernel
theorem dX7_readsCall_49 : decode cX7_readsCall 49 = .ok (.goto 4, 3) := by decide +kernel
theorem dX7_readsCall_52 : decode cX7_readsCall 52 = .ok (.iconst 0, 1) := by decide +kernel
theorem dX7_readsCall_53 : decode cX7_readsCall 53 = .ok (.ireturn, 1) := by decide +kernel
theorem dX7_readsWalk_0 : decode cX7_readsWalk 0 = .ok (.aload_n 0, 1) := by decide +kernel
theorem dX7_readsWalk_1 : decode cX7_readsWalk 1 = .ok (.aload_n 0, 1) := by decide +kernel
theorem dX7_readsWalk_2 : decode cX7_readsWalk 2 = .ok (.iconst 0, 1) := by decide +kernel
theorem dX7_readsWalk_3 : decode cX7_readsWalk 3 = .ok (.iconst 3, 1) := by decide +kernel
theorem dX7_readsWalk_4 : decode cX7_readsWalk 4 = .ok (.invokevirtual 117, 3) := by decide +kernel
theorem dX7_readsWalk_7 : decode cX7_readsWalk 7 = .ok (.putfield 120, 3) := by decide +kernel
theorem dX7_readsWalk_10 : decode cX7_readsWalk 10 = .ok (.aload_n 0, 1) := by decide +kernel
theorem dX7_readsWalk_11 : decode cX7_readsWalk 11 = .ok (.invokevirtual 114, 3) := by decide +kernel
theorem dX7_readsWalk_14 : decode cX7_readsWalk 14 = .ok (.bipush 43, 2) := by decide +kernel
theorem dX7_readsWalk_16 : decode cX7_readsWalk 16 = .ok (.if_icmp .ne 7, 3) := by decide +kernel
theorem dX7_readsWalk_19 : decode cX7_readsWalk 19 = .ok (.iconst 1, 1) := by decide +kernel
theorem dX7_readsWalk_20 : decode cX7_readsWalk 20 = .ok (.goto 4, 3) := by decide +kernel
theorem dX7_readsWalk_23 : decode cX7_readsWalk 23 = .ok (.iconst (-1), 1) := by decide +kernel
theorem dX7_readsWalk_24 : decode cX7_readsWalk 24 = .ok (.istore_n 1, 1) := by decide +kernel
theorem dX7_readsWalk_25 : decode cX7_readsWalk 25 = .ok (.aload_n 0, 1) := by decide +kernel
theorem dX7_readsWalk_26 : decode cX7_readsWalk 26 = .ok (.getfield 120, 3) := by decide +kernel
theorem dX7_readsWalk_29 : decode cX7_readsWalk 29 = .ok (.iconst (-1), 1) := by decide +kernel
theorem dX7_readsWalk_30 : decode cX7_readsWalk 30 = .ok (.if_icmp .eq 21, 3) := by decide +kernel
theorem dX7_readsWalk_33 : decode cX7_readsWalk 33 = .ok (.aload_n 0, 1) := by decide +kernel
theorem dX7_readsWalk_34 : decode cX7_readsWalk 34 = .ok (.bipush 43, 2) := by decide +kernel
theorem dX7_readsWalk_36 : decode cX7_readsWalk 36 = .ok (.invokevirtual 123, 3) := by decide +kernel
theorem dX7_readsWalk_39 : decode cX7_readsWalk 39 = .ok (.ifCond .ne 14, 3) := by decide +kernel
theorem dX7_readsWalk_42 : decode cX7_readsWalk 42 = .ok (.aload_n 0, 1) := by decide +kernel
theorem dX7_readsWalk_43 : decode cX7_readsWalk 43 = .ok (.bipush 45, 2) := by decide +kernel
theorem dX7_readsWalk_45 : decode cX7_readsWalk 45 = .ok (.invokevirtual 123, 3) := by decide +kernel
theorem dX7_readsWalk_48 : decode cX7_readsWalk 48 = .ok (.ifCond .ne 5, 3) := by decide +kernel
theorem dX7_readsWalk_51 : decode cX7_readsWalk 51 = .ok (.iconst 0, 1) := by decide +kernel
theorem dX7_readsWalk_52 : decode cX7_readsWalk 52 = .ok (.ireturn, 1) := by decide +kernel
theorem dX7_readsWalk_53 : decode cX7_readsWalk 53 = .ok (.aload_n 0, 1) := by decide +kernel
theorem dX7_readsWalk_54 : decode cX7_readsWalk 54 = .ok (.iconst 1, 1) := by decide +kernel
theorem dX7_readsWalk_55 : decode cX7_readsWalk 55 = .ok (.bipush 9, 2) := by decide +kernel
theorem dX7_readsWalk_57 : decode cX7_readsWalk 57 = .ok (.invokevirtual 117, 3) := by decide +kernel
theorem dX7_readsWalk_60 : decode cX7_readsWalk 60 = .ok (.istore_n 2, 1) := by decide +kernel
theorem dX7_readsWalk_61 : decode cX7_readsWalk 61 = .ok (.aload_n 0, 1) := by decide +kernel
theorem dX7_readsWalk_62 : decode cX7_readsWalk 62 = .ok (.iload_n 1, 1) := by decide +kernel
theorem dX7_readsWalk_63 : decode cX7_readsWalk 63 = .ok (.iload_n 2, 1) := by decide +kernel
theorem dX7_readsWalk_64 : decode cX7_readsWalk 64 = .ok (.imul, 1) := by decide +kernel
theorem dX7_readsWalk_65 : decode cX7_readsWalk 65 = .ok (.putfield 126, 3) := by decide +kernel
theorem dX7_readsWalk_68 : decode cX7_readsWalk 68 = .ok (.iload_n 2, 1) := by decide +kernel
theorem dX7_readsWalk_69 : decode cX7_readsWalk 69 = .ok (.iconst (-1), 1) := by decide +kernel
theorem dX7_readsWalk_70 : decode cX7_readsWalk 70 = .ok (.if_icmp .eq 7, 3) := by decide +kernel
theorem dX7_readsWalk_73 : decode cX7_readsWalk 73 = .ok (.iconst 1, 1) := by decide +kernel
theorem dX7_readsWalk_74 : decode cX7_readsWalk 74 = .ok (.goto 4, 3) := by decide +kernel
theorem dX7_readsWalk_77 : decode cX7_readsWalk 77 = .ok (.iconst 0, 1) := by decide +kernel
theorem dX7_readsWalk_78 : decode cX7_readsWalk 78 = .ok (.ireturn, 1) := by decide +kernel
theorem dX7_readsTurns_0 : decode cX7_readsTurns 0 = .ok (.aload_n 0, 1) := by decide +kernel
theorem dX7_readsTurns_1 : decode cX7_readsTurns 1 = .ok (.aload_n 0, 1) := by decide +kernel
theorem dX7_readsTurns_2 : decode cX7_readsTurns 2 = .ok (.iconst 1, 1) := by decide +kernel
theorem dX7_readsTurns_3 : decode cX7_readsTurns 3 = .ok (.bipush 9, 2) := by decide +kernel
theorem dX7_readsTurns_5 : decode cX7_readsTurns 5 = .ok (.invokevirtual 117, 3) := by decide +kernel
theorem dX7_readsTurns_8 : decode cX7_readsTurns 8 = .ok (.putfield 120, 3) := by decide +kernel
theorem dX7_readsTurns_11 : decode cX7_readsTurns 11 = .ok (.aload_n 0, 1) := by decide +kernel
theorem dX7_readsTurns_12 : decode cX7_readsTurns 12 = .ok (.getfield 120, 3) := by decide +kernel
theorem dX7_readsTurns_15 : decode cX7_readsTurns 15 = .ok (.iconst (-1), 1) := by decide +kernel
theorem dX7_readsTurns_16 : decode cX7_readsTurns 16 = .ok (.if_icmp .ne 7, 3) := by decide +kernel
theorem dX7_readsTurns_19 : decode cX7_readsTurns 19 = .ok (.iconst (-1), 1) := by decide +kernel
theorem dX7_readsTurns_20 : decode cX7_readsTurns 20 = .ok (.goto 10, 3) := by decide +kernel
theorem dX7_readsTurns_23 : decode cX7_readsTurns 23 = .ok (.aload_n 0, 1) := by decide +kernel
theorem dX7_readsTurns_24 : decode cX7_readsTurns 24 = .ok (.iconst 0, 1) := by decide +kernel
theorem dX7_readsTurns_25 : decode cX7_readsTurns 25 = .ok (.bipush 9, 2) := by decide +kernel
theorem dX7_readsTurns_27 : decode cX7_readsTurns 27 = .ok (.invokevirtual 117, 3) := by decide +kernel
theorem dX7_readsTurns_30 : decode cX7_readsTurns 30 = .ok (.istore_n 1, 1) := by decide +kernel
theorem dX7_readsTurns_31 : decode cX7_readsTurns 31 = .ok (.aload_n 0, 1) := by decide +kernel
theorem dX7_readsTurns_32 : decode cX7_readsTurns 32 = .ok (.iload_n 1, 1) := by decide +kernel
theorem dX7_readsTurns_33 : decode cX7_readsTurns 33 = .ok (.iconst (-1), 1) := by decide +kernel
theorem dX7_readsTurns_34 : decode cX7_readsTurns 34 = .ok (.if_icmp .ne 10, 3) := by decide +kernel
theorem dX7_readsTurns_37 : decode cX7_readsTurns 37 = .ok (.aload_n 0, 1) := by decide +kernel
theorem dX7_readsTurns_38 : decode cX7_readsTurns 38 = .ok (.getfield 120, 3) := by decide +kernel
theorem dX7_readsTurns_41 : decode cX7_readsTurns 41 = .ok (.goto 12, 3) := by decide +kernel
theorem dX7_readsTurns_44 : decode cX7_readsTurns 44 = .ok (.bipush 10, 2) := by decide +kernel
theorem dX7_readsTurns_46 : decode cX7_readsTurns 46 = .ok (.aload_n 0, 1) := by decide +kernel
theorem dX7_readsTurns_47 : decode cX7_readsTurns 47 = .ok (.getfield 120, 3) := by decide +kernel
theorem dX7_readsTurns_50 : decode cX7_readsTurns 50 = .ok (.imul, 1) := by decide +kernel
theorem dX7_readsTurns_51 : decode cX7_readsTurns 51 = .ok (.iload_n 1, 1) := by decide +kernel
theorem dX7_readsTurns_52 : decode cX7_readsTurns 52 = .ok (.iadd, 1) := by decide +kernel
theorem dX7_readsTurns_53 : decode cX7_readsTurns 53 = .ok (.putfield 120, 3) := by decide +kernel
theorem dX7_readsTurns_56 : decode cX7_readsTurns 56 = .ok (.aload_n 0, 1) := by decide +kernel
theorem dX7_readsTurns_57 : decode cX7_readsTurns 57 = .ok (.getfield 120, 3) := by decide +kernel
theorem dX7_readsTurns_60 : decode cX7_readsTurns 60 = .ok (.iconst (-1), 1) := by decide +kernel
theorem dX7_readsTurns_61 : decode cX7_readsTurns 61 = .ok (.if_icmp .eq 7, 3) := by decide +kernel
theorem dX7_readsTurns_64 : decode cX7_readsTurns 64 = .ok (.iconst 1, 1) := by decide +kernel
theorem dX7_readsTurns_65 : decode cX7_readsTurns 65 = .ok (.goto 4, 3) := by decide +kernel
theorem dX7_readsTurns_68 : decode cX7_readsTurns 68 = .ok (.iconst 0, 1) := by decide +kernel
theorem dX7_readsTurns_69 : decode cX7_readsTurns 69 = .ok (.ireturn, 1) := by decide +kernel
theorem dX7_readsOrder_0 : decode cX7_readsOrder 0 = .ok (.aload_n 0, 1) := by decide +kernel
theorem dX7_readsOrder_1 : decode cX7_readsOrder 1 = .ok (.aload_n 0, 1) := by decide +kernel
theorem dX7_readsOrder_2 : decode cX7_readsOrder 2 = .ok (.invokevirtual 114, 3) := by decide +kernel
theorem dX7_readsOrder_5 : decode cX7_readsOrder 5 = .ok (.putfield 129, 3) := by decide +kernel
theorem dX7_readsOrder_8 : decode cX7_readsOrder 8 = .ok (.aload_n 0, 1) := by decide +kernel
theorem dX7_readsOrder_9 : decode cX7_readsOrder 9 = .ok (.getfield 129, 3) := by decide +kernel
theorem dX7_readsOrder_12 : decode cX7_readsOrder 12 = .ok (.lookupswitch 81 #[(99, 36), (109, 51), (116, 66)], 36) := by decide +kernel
theorem dX7_readsOrder_48 : decode cX7_readsOrder 48 = .ok (.aload_n 0, 1) := by decide +kernel
theorem dX7_readsOrder_49 : decode cX7_readsOrder 49 = .ok (.dup, 1) := by decide +kernel
theorem dX7_readsOrder_50 : decode cX7_readsOrder 50 = .ok (.getfield 111, 3) := by decide +kernel
theorem dX7_readsOrder_53 : decode cX7_readsOrder 53 = .ok (.iconst 1, 1) := by decide +kernel
theorem dX7_readsOrder_54 : decode cX7_readsOrder 54 = .ok (.iadd, 1) := by decide +kernel
theorem dX7_readsOrder_55 : decode cX7_readsOrder 55 = .ok (.putfield 111, 3) := by decide +kernel
theorem dX7_readsOrder_58 : decode cX7_readsOrder 58 = .ok (.aload_n 0, 1) := by decide +kernel
theorem dX7_readsOrder_59 : decode cX7_readsOrder 59 = .ok (.invokevirtual 132, 3) := by decide +kernel
theorem dX7_readsOrder_62 : decode cX7_readsOrder 62 = .ok (.ireturn, 1) := by decide +kernel
theorem dX7_readsOrder_63 : decode cX7_readsOrder 63 = .ok (.aload_n 0, 1) := by decide +kernel
theorem dX7_readsOrder_64 : decode cX7_readsOrder 64 = .ok (.dup, 1) := by decide +kernel
theorem dX7_readsOrder_65 : decode cX7_readsOrder 65 = .ok (.getfield 111, 3) := by decide +kernel
theorem dX7_readsOrder_68 : decode cX7_readsOrder 68 = .ok (.iconst 1, 1) := by decide +kernel
theorem dX7_readsOrder_69 : decode cX7_readsOrder 69 = .ok (.iadd, 1) := by decide +kernel
theorem dX7_readsOrder_70 : decode cX7_readsOrder 70 = .ok (.putfield 111, 3) := by decide +kernel
theorem dX7_readsOrder_73 : decode cX7_readsOrder 73 = .ok (.aload_n 0, 1) := by decide +kernel
theorem dX7_readsOrder_74 : decode cX7_readsOrder 74 = .ok (.invokevirtual 136, 3) := by decide +kernel
theorem dX7_readsOrder_77 : decode cX7_readsOrder 77 = .ok (.ireturn, 1) := by decide +kernel
theorem dX7_readsOrder_78 : decode cX7_readsOrder 78 = .ok (.aload_n 0, 1) := by decide +kernel
theorem dX7_readsOrder_79 : decode cX7_readsOrder 79 = .ok (.dup, 1) := by decide +kernel
theorem dX7_readsOrder_80 : decode cX7_readsOrder 80 = .ok (.getfield 111, 3) := by decide +kernel
theorem dX7_readsOrder_83 : decode cX7_readsOrder 83 = .ok (.iconst 1, 1) := by decide +kernel
theorem dX7_readsOrder_84 : decode cX7_readsOrder 84 = .ok (.iadd, 1) := by decide +kernel
theorem dX7_readsOrder_85 : decode cX7_readsOrder 85 = .ok (.putfield 111, 3) := by decide +kernel
theorem dX7_readsOrder_88 : decode cX7_readsOrder 88 = .ok (.aload_n 0, 1) := by decide +kernel
theorem dX7_readsOrder_89 : decode cX7_readsOrder 89 = .ok (.invokevirtual 139, 3) := by decide +kernel
theorem dX7_readsOrder_92 : decode cX7_readsOrder 92 = .ok (.ireturn, 1) := by decide +kernel
theorem dX7_readsOrder_93 : decode cX7_readsOrder 93 = .ok (.iconst 0, 1) := by decide +kernel
theorem dX7_readsOrder_94 : decode cX7_readsOrder 94 = .ok (.ireturn, 1) := by decide +kernel
theorem dX7_findError_0 : decode cX7_findError 0 = .ok (.aload_n 0, 1) := by decide +kernel
theorem dX7_findError_1 : decode cX7_findError 1 = .ok (.iconst 0, 1) := by decide +kernel
theorem dX7_findError_2 : decode cX7_findError 2 = .ok (.putfield 111, 3) := by decide +kernel
theorem dX7_findError_5 : decode cX7_findError 5 = .ok (.aload_n 0, 1) := by decide +kernel
theorem dX7_findError_6 : decode cX7_findError 6 = .ok (.invokevirtual 142, 3) := by decide +kernel
theorem dX7_findError_9 : decode cX7_findError 9 = .ok (.ifCond .eq 30, 3) := by decide +kernel
theorem dX7_findError_12 : decode cX7_findError 12 = .ok (.aload_n 0, 1) := by decide +kernel
theorem dX7_findError_13 : decode cX7_findError 13 = .ok (.getfield 111, 3) := by decide +kernel
theorem dX7_findError_16 : decode cX7_findError 16 = .ok (.aload_n 0, 1) := by decide +kernel
theorem dX7_findError_17 : decode cX7_findError 17 = .ok (.getfield 108, 3) := by decide +kernel
theorem dX7_findError_20 : decode cX7_findError 20 = .ok (.if_icmp .ne 5, 3) := by decide +kernel
theorem dX7_findError_23 : decode cX7_findError 23 = .ok (.iconst (-1), 1) := by decide +kernel
theorem dX7_findError_24 : decode cX7_findError 24 = .ok (.ireturn, 1) := by decide +kernel
theorem dX7_findError_25 : decode cX7_findError 25 = .ok (.aload_n 0, 1) := by decide +kernel
theorem dX7_findError_26 : decode cX7_findError 26 = .ok (.bipush 59, 2) := by decide +kernel
theorem dX7_findError_28 : decode cX7_findError 28 = .ok (.invokevirtual 123, 3) := by decide +kernel
theorem dX7_findError_31 : decode cX7_findError 31 = .ok (.ifCond .ne (-26), 3) := by decide +kernel
theorem dX7_findError_34 : decode cX7_findError 34 = .ok (.aload_n 0, 1) := by decide +kernel
theorem dX7_findError_35 : decode cX7_findError 35 = .ok (.getfield 111, 3) := by decide +kernel
theorem dX7_findError_38 : decode cX7_findError 38 = .ok (.ireturn, 1) := by decide +kernel
theorem dX7_findError_39 : decode cX7_findError 39 = .ok (.aload_n 0, 1) := by decide +kernel
theorem dX7_findError_40 : decode cX7_findError 40 = .ok (.getfield 111, 3) := by decide +kernel
theorem dX7_findError_43 : decode cX7_findError 43 = .ok (.ireturn, 1) := by decide +kernel
theorem dX7_firstError_0 : decode cX7_firstError 0 = .ok (.aload_n 0, 1) := by decide +kernel
theorem dX7_firstError_1 : decode cX7_firstError 1 = .ok (.iconst 0, 1) := by decide +kernel
theorem dX7_firstError_2 : decode cX7_firstError 2 = .ok (.putfield 25, 3) := by decide +kernel
theorem dX7_firstError_5 : decode cX7_firstError 5 = .ok (.aload_n 0, 1) := by decide +kernel
theorem dX7_firstError_6 : decode cX7_firstError 6 = .ok (.invokevirtual 145, 3) := by decide +kernel
theorem dX7_firstError_9 : decode cX7_firstError 9 = .ok (.istore_n 1, 1) := by decide +kernel
theorem dX7_firstError_10 : decode cX7_firstError 10 = .ok (.iload_n 1, 1) := by decide +kernel
theorem dX7_firstError_11 : decode cX7_firstError 11 = .ok (.iconst (-1), 1) := by decide +kernel
theorem dX7_firstError_12 : decode cX7_firstError 12 = .ok (.if_icmp .ne 10, 3) := by decide +kernel
theorem dX7_firstError_15 : decode cX7_firstError 15 = .ok (.aload_n 0, 1) := by decide +kernel
theorem dX7_firstError_16 : decode cX7_firstError 16 = .ok (.getfield 108, 3) := by decide +kernel
theorem dX7_firstError_19 : decode cX7_firstError 19 = .ok (.goto 4, 3) := by decide +kernel
theorem dX7_firstError_22 : decode cX7_firstError 22 = .ok (.iload_n 1, 1) := by decide +kernel
theorem dX7_firstError_23 : decode cX7_firstError 23 = .ok (.ireturn, 1) := by decide +kernel
theorem dX7_doesOrder_0 : decode cX7_doesOrder 0 = .ok (.aload_n 0, 1) := by decide +kernel
theorem dX7_doesOrder_1 : decode cX7_doesOrder 1 = .ok (.getfield 129, 3) := by decide +kernel
theorem dX7_doesOrder_4 : decode cX7_doesOrder 4 = .ok (.bipush 99, 2) := by decide +kernel
theorem dX7_doesOrder_6 : decode cX7_doesOrder 6 = .ok (.if_icmp .ne 25, 3) := by decide +kernel
theorem dX7_doesOrder_9 : decode cX7_doesOrder 9 = .ok (.aload_n 0, 1) := by decide +kernel
theorem dX7_doesOrder_10 : decode cX7_doesOrder 10 = .ok (.aload_n 0, 1) := by decide +kernel
theorem dX7_doesOrder_11 : decode cX7_doesOrder 11 = .ok (.getfield 120, 3) := by decide +kernel
theorem dX7_doesOrder_14 : decode cX7_doesOrder 14 = .ok (.aload_n 0, 1) := by decide +kernel
theorem dX7_doesOrder_15 : decode cX7_doesOrder 15 = .ok (.getfield 126, 3) := by decide +kernel
theorem dX7_doesOrder_18 : decode cX7_doesOrder 18 = .ok (.invokevirtual 95, 3) := by decide +kernel
theorem dX7_doesOrder_21 : decode cX7_doesOrder 21 = .ok (.iconst (-1), 1) := by decide +kernel
theorem dX7_doesOrder_22 : decode cX7_doesOrder 22 = .ok (.if_icmp .eq 7, 3) := by decide +kernel
theorem dX7_doesOrder_25 : decode cX7_doesOrder 25 = .ok (.iconst 1, 1) := by decide +kernel
theorem dX7_doesOrder_26 : decode cX7_doesOrder 26 = .ok (.goto 4, 3) := by decide +kernel
theorem dX7_doesOrder_29 : decode cX7_doesOrder 29 = .ok (.iconst 0, 1) := by decide +kernel
theorem dX7_doesOrder_30 : decode cX7_doesOrder 30 = .ok (.ireturn, 1) := by decide +kernel
theorem dX7_doesOrder_31 : decode cX7_doesOrder 31 = .ok (.aload_n 0, 1) := by decide +kernel
theorem dX7_doesOrder_32 : decode cX7_doesOrder 32 = .ok (.getfield 129, 3) := by decide +kernel
theorem dX7_doesOrder_35 : decode cX7_doesOrder 35 = .ok (.bipush 109, 2) := by decide +kernel
theorem dX7_doesOrder_37 : decode cX7_doesOrder 37 = .ok (.if_icmp .ne 25, 3) := by decide +kernel
theorem dX7_doesOrder_40 : decode cX7_doesOrder 40 = .ok (.aload_n 0, 1) := by decide +kernel
theorem dX7_doesOrder_41 : decode cX7_doesOrder 41 = .ok (.aload_n 0, 1) := by decide +kernel
theorem dX7_doesOrder_42 : decode cX7_doesOrder 42 = .ok (.getfield 120, 3) := by decide +kernel
theorem dX7_doesOrder_45 : decode cX7_doesOrder 45 = .ok (.aload_n 0, 1) := by decide +kernel
theorem dX7_doesOrder_46 : decode cX7_doesOrder 46 = .ok (.getfield 126, 3) := by decide +kernel
theorem dX7_doesOrder_49 : decode cX7_doesOrder 49 = .ok (.invokevirtual 98, 3) := by decide +kernel
theorem dX7_doesOrder_52 : decode cX7_doesOrder 52 = .ok (.iconst (-1), 1) := by decide +kernel
theorem dX7_doesOrder_53 : decode cX7_doesOrder 53 = .ok (.if_icmp .eq 7, 3) := by decide +kernel
theorem dX7_doesOrder_56 : decode cX7_doesOrder 56 = .ok (.iconst 1, 1) := by decide +kernel
theorem dX7_doesOrder_57 : decode cX7_doesOrder 57 = .ok (.goto 4, 3) := by decide +kernel
theorem dX7_doesOrder_60 : decode cX7_doesOrder 60 = .ok (.iconst 0, 1) := by decide +kernel
theorem dX7_doesOrder_61 : decode cX7_doesOrder 61 = .ok (.ireturn, 1) := by decide +kernel
theorem dX7_doesOrder_62 : decode cX7_doesOrder 62 = .ok (.aload_n 0, 1) := by decide +kernel
theorem dX7_doesOrder_63 : decode cX7_doesOrder 63 = .ok (.getfield 7, 3) := by decide +kernel
theorem dX7_doesOrder_66 : decode cX7_doesOrder 66 = .ok (.iconst 3, 1) := by decide +kernel
theorem dX7_doesOrder_67 : decode cX7_doesOrder 67 = .ok (.iaload, 1) := by decide +kernel
theorem dX7_doesOrder_68 : decode cX7_doesOrder 68 = .ok (.aload_n 0, 1) := by decide +kernel
theorem dX7_doesOrder_69 : decode cX7_doesOrder 69 = .ok (.getfield 120, 3) := by decide +kernel
theorem dX7_doesOrder_72 : decode cX7_doesOrder 72 = .ok (.iadd, 1) := by decide +kernel
theorem dX7_doesOrder_73 : decode cX7_doesOrder 73 = .ok (.ldc 104, 2) := by decide +kernel
theorem dX7_doesOrder_75 : decode cX7_doesOrder 75 = .ok (.if_icmp .gt 7, 3) := by decide +kernel
theorem dX7_doesOrder_78 : decode cX7_doesOrder 78 = .ok (.iconst 1, 1) := by decide +kernel
theorem dX7_doesOrder_79 : decode cX7_doesOrder 79 = .ok (.goto 4, 3) := by decide +kernel
theorem dX7_doesOrder_82 : decode cX7_doesOrder 82 = .ok (.iconst 0, 1) := by decide +kernel
theorem dX7_doesOrder_83 : decode cX7_doesOrder 83 = .ok (.istore_n 1, 1) := by decide +kernel
theorem dX7_doesOrder_84 : decode cX7_doesOrder 84 = .ok (.iload_n 1, 1) := by decide +kernel
theorem dX7_doesOrder_85 : decode cX7_doesOrder 85 = .ok (.ifCond .eq 18, 3) := by decide +kernel
theorem dX7_doesOrder_88 : decode cX7_doesOrder 88 = .ok (.aload_n 0, 1) := by decide +kernel
theorem dX7_doesOrder_89 : decode cX7_doesOrder 89 = .ok (.aload_n 0, 1) := by decide +kernel
theorem dX7_doesOrder_90 : decode cX7_doesOrder 90 = .ok (.getfield 120, 3) := by decide +kernel
theorem dX7_doesOrder_93 : decode cX7_doesOrder 93 = .ok (.invokevirtual 105, 3) := by decide +kernel
theorem dX7_doesOrder_96 : decode cX7_doesOrder 96 = .ok (.ifCond .lt 7, 3) := by decide +kernel
theorem dX7_doesOrder_99 : decode cX7_doesOrder 99 = .ok (.iconst 1, 1) := by decide +kernel
theorem dX7_doesOrder_100 : decode cX7_doesOrder 100 = .ok (.goto 4, 3) := by decide +kernel
theorem dX7_doesOrder_103 : decode cX7_doesOrder 103 = .ok (.iconst 0, 1) := by decide +kernel
theorem dX7_doesOrder_104 : decode cX7_doesOrder 104 = .ok (.ireturn, 1) := by decide +kernel
theorem dX7_run_0 : decode cX7_run 0 = .ok (.aload_n 0, 1) := by decide +kernel
theorem dX7_run_1 : decode cX7_run 1 = .ok (.iconst 0, 1) := by decide +kernel
theorem dX7_run_2 : decode cX7_run 2 = .ok (.putfield 25, 3) := by decide +kernel
theorem dX7_run_5 : decode cX7_run 5 = .ok (.aload_n 0, 1) := by decide +kernel
theorem dX7_run_6 : decode cX7_run 6 = .ok (.invokevirtual 145, 3) := by decide +kernel
theorem dX7_run_9 : decode cX7_run 9 = .ok (.iconst (-1), 1) := by decide +kernel
theorem dX7_run_10 : decode cX7_run 10 = .ok (.if_icmp .eq 9, 3) := by decide +kernel
theorem dX7_run_13 : decode cX7_run 13 = .ok (.aload_n 0, 1) := by decide +kernel
theorem dX7_run_14 : decode cX7_run 14 = .ok (.iconst 1, 1) := by decide +kernel
theorem dX7_run_15 : decode cX7_run 15 = .ok (.invokevirtual 40, 3) := by decide +kernel
theorem dX7_run_18 : decode cX7_run 18 = .ok (.ireturn, 1) := by decide +kernel
theorem dX7_run_19 : decode cX7_run 19 = .ok (.aload_n 0, 1) := by decide +kernel
theorem dX7_run_20 : decode cX7_run 20 = .ok (.invokevirtual 44, 3) := by decide +kernel
theorem dX7_run_23 : decode cX7_run 23 = .ok (.aload_n 0, 1) := by decide +kernel
theorem dX7_run_24 : decode cX7_run 24 = .ok (.iconst 0, 1) := by decide +kernel
theorem dX7_run_25 : decode cX7_run 25 = .ok (.putfield 111, 3) := by decide +kernel
theorem dX7_run_28 : decode cX7_run 28 = .ok (.iconst 0, 1) := by decide +kernel
theorem dX7_run_29 : decode cX7_run 29 = .ok (.istore_n 1, 1) := by decide +kernel
theorem dX7_run_30 : decode cX7_run 30 = .ok (.iconst 1, 1) := by decide +kernel
theorem dX7_run_31 : decode cX7_run 31 = .ok (.istore_n 2, 1) := by decide +kernel
theorem dX7_run_32 : decode cX7_run 32 = .ok (.iload_n 2, 1) := by decide +kernel
theorem dX7_run_33 : decode cX7_run 33 = .ok (.ifCond .eq 59, 3) := by decide +kernel
theorem dX7_run_36 : decode cX7_run 36 = .ok (.aload_n 0, 1) := by decide +kernel
theorem dX7_run_37 : decode cX7_run 37 = .ok (.getfield 111, 3) := by decide +kernel
theorem dX7_run_40 : decode cX7_run 40 = .ok (.aload_n 0, 1) := by decide +kernel
theorem dX7_run_41 : decode cX7_run 41 = .ok (.getfield 108, 3) := by decide +kernel
theorem dX7_run_44 : decode cX7_run 44 = .ok (.if_icmp .ge 48, 3) := by decide +kernel
theorem dX7_run_47 : decode cX7_run 47 = .ok (.aload_n 0, 1) := by decide +kernel
theorem dX7_run_48 : decode cX7_run 48 = .ok (.invokevirtual 142, 3) := by decide +kernel
theorem dX7_run_51 : decode cX7_run 51 = .ok (.ifCond .eq 14, 3) := by decide +kernel
theorem dX7_run_54 : decode cX7_run 54 = .ok (.aload_n 0, 1) := by decide +kernel
theorem dX7_run_55 : decode cX7_run 55 = .ok (.invokevirtual 148, 3) := by decide +kernel
theorem dX7_run_58 : decode cX7_run 58 = .ok (.ifCond .eq 7, 3) := by decide +kernel
theorem dX7_run_61 : decode cX7_run 61 = .ok (.iconst 1, 1) := by decide +kernel
theorem dX7_run_62 : decode cX7_run 62 = .ok (.goto 4, 3) := by decide +kernel
theorem dX7_run_65 : decode cX7_run 65 = .ok (.iconst 0, 1) := by decide +kernel
theorem dX7_run_66 : decode cX7_run 66 = .ok (.istore_n 2, 1) := by decide +kernel
theorem dX7_run_67 : decode cX7_run 67 = .ok (.iload_n 1, 1) := by decide +kernel
theorem dX7_run_68 : decode cX7_run 68 = .ok (.iload_n 2, 1) := by decide +kernel
theorem dX7_run_69 : decode cX7_run 69 = .ok (.ifCond .eq 7, 3) := by decide +kernel
theorem dX7_run_72 : decode cX7_run 72 = .ok (.iconst 1, 1) := by decide +kernel
theorem dX7_run_73 : decode cX7_run 73 = .ok (.goto 4, 3) := by decide +kernel
theorem dX7_run_76 : decode cX7_run 76 = .ok (.iconst 0, 1) := by decide +kernel
theorem dX7_run_77 : decode cX7_run 77 = .ok (.iadd, 1) := by decide +kernel
theorem dX7_run_78 : decode cX7_run 78 = .ok (.istore_n 1, 1) := by decide +kernel
theorem dX7_run_79 : decode cX7_run 79 = .ok (.aload_n 0, 1) := by decide +kernel
theorem dX7_run_80 : decode cX7_run 80 = .ok (.dup, 1) := by decide +kernel
theorem dX7_run_81 : decode cX7_run 81 = .ok (.getfield 111, 3) := by decide +kernel
theorem dX7_run_84 : decode cX7_run 84 = .ok (.iconst 1, 1) := by decide +kernel
theorem dX7_run_85 : decode cX7_run 85 = .ok (.iadd, 1) := by decide +kernel
theorem dX7_run_86 : decode cX7_run 86 = .ok (.putfield 111, 3) := by decide +kernel
theorem dX7_run_89 : decode cX7_run 89 = .ok (.goto (-57), 3) := by decide +kernel
theorem dX7_run_92 : decode cX7_run 92 = .ok (.aload_n 0, 1) := by decide +kernel
theorem dX7_run_93 : decode cX7_run 93 = .ok (.iconst 0, 1) := by decide +kernel
theorem dX7_run_94 : decode cX7_run 94 = .ok (.putfield 108, 3) := by decide +kernel
theorem dX7_run_97 : decode cX7_run 97 = .ok (.iload_n 1, 1) := by decide +kernel
theorem dX7_run_98 : decode cX7_run 98 = .ok (.ireturn, 1) := by decide +kernel
theorem dX7_tellsPlayer_0 : decode cX7_tellsPlayer 0 = .ok (.iload_n 2, 1) := by decide +kernel
theorem dX7_tellsPlayer_1 : decode cX7_tellsPlayer 1 = .ok (.iconst 3, 1) := by decide +kernel
theorem dX7_tellsPlayer_2 : decode cX7_tellsPlayer 2 = .ok (.if_icmp .ge 12, 3) := by decide +kernel
theorem dX7_tellsPlayer_5 : decode cX7_tellsPlayer 5 = .ok (.aload_n 0, 1) := by decide +kernel
theorem dX7_tellsPlayer_6 : decode cX7_tellsPlayer 6 = .ok (.iload_n 1, 1) := by decide +kernel
theorem dX7_tellsPlayer_7 : decode cX7_tellsPlayer 7 = .ok (.iload_n 2, 1) := by decide +kernel
theorem dX7_tellsPlayer_8 : decode cX7_tellsPlayer 8 = .ok (.invokevirtual 33, 3) := by decide +kernel
theorem dX7_tellsPlayer_11 : decode cX7_tellsPlayer 11 = .ok (.goto 24, 3) := by decide +kernel
theorem dX7_tellsPlayer_14 : decode cX7_tellsPlayer 14 = .ok (.iload_n 2, 1) := by decide +kernel
theorem dX7_tellsPlayer_15 : decode cX7_tellsPlayer 15 = .ok (.iconst 3, 1) := by decide +kernel
theorem dX7_tellsPlayer_16 : decode cX7_tellsPlayer 16 = .ok (.if_icmp .ne 11, 3) := by decide +kernel
theorem dX7_tellsPlayer_19 : decode cX7_tellsPlayer 19 = .ok (.aload_n 0, 1) := by decide +kernel
theorem dX7_tellsPlayer_20 : decode cX7_tellsPlayer 20 = .ok (.iload_n 1, 1) := by decide +kernel
theorem dX7_tellsPlayer_21 : decode cX7_tellsPlayer 21 = .ok (.invokevirtual 60, 3) := by decide +kernel
theorem dX7_tellsPlayer_24 : decode cX7_tellsPlayer 24 = .ok (.goto 11, 3) := by decide +kernel
theorem dX7_tellsPlayer_27 : decode cX7_tellsPlayer 27 = .ok (.aload_n 0, 1) := by decide +kernel
theorem dX7_tellsPlayer_28 : decode cX7_tellsPlayer 28 = .ok (.iload_n 1, 1) := by decide +kernel
theorem dX7_tellsPlayer_29 : decode cX7_tellsPlayer 29 = .ok (.iload_n 2, 1) := by decide +kernel
theorem dX7_tellsPlayer_30 : decode cX7_tellsPlayer 30 = .ok (.iconst 1, 1) := by decide +kernel
theorem dX7_tellsPlayer_31 : decode cX7_tellsPlayer 31 = .ok (.isub, 1) := by decide +kernel
theorem dX7_tellsPlayer_32 : decode cX7_tellsPlayer 32 = .ok (.invokevirtual 33, 3) := by decide +kernel
theorem dX7_tellsPlayer_35 : decode cX7_tellsPlayer 35 = .ok (.ireturn, 1) := by decide +kernel
theorem dX7_playerOf_0 : decode cX7_playerOf 0 = .ok (.aload_n 0, 1) := by decide +kernel
theorem dX7_playerOf_1 : decode cX7_playerOf 1 = .ok (.iconst 0, 1) := by decide +kernel
theorem dX7_playerOf_2 : decode cX7_playerOf 2 = .ok (.putfield 25, 3) := by decide +kernel
theorem dX7_playerOf_5 : decode cX7_playerOf 5 = .ok (.iload_n 1, 1) := by decide +kernel
theorem dX7_playerOf_6 : decode cX7_playerOf 6 = .ok (.invokestatic 91, 3) := by decide +kernel
theorem dX7_playerOf_9 : decode cX7_playerOf 9 = .ok (.ifCond .ne 9, 3) := by decide +kernel
theorem dX7_playerOf_12 : decode cX7_playerOf 12 = .ok (.aload_n 0, 1) := by decide +kernel
theorem dX7_playerOf_13 : decode cX7_playerOf 13 = .ok (.iconst 1, 1) := by decide +kernel
theorem dX7_playerOf_14 : decode cX7_playerOf 14 = .ok (.invokevirtual 40, 3) := by decide +kernel
theorem dX7_playerOf_17 : decode cX7_playerOf 17 = .ok (.ireturn, 1) := by decide +kernel
theorem dX7_playerOf_18 : decode cX7_playerOf 18 = .ok (.iload_n 2, 1) := by decide +kernel
theorem dX7_playerOf_19 : decode cX7_playerOf 19 = .ok (.iconst 0, 1) := by decide +kernel
theorem dX7_playerOf_20 : decode cX7_playerOf 20 = .ok (.bipush 6, 2) := by decide +kernel
theorem dX7_playerOf_22 : decode cX7_playerOf 22 = .ok (.invokestatic 29, 3) := by decide +kernel
theorem dX7_playerOf_25 : decode cX7_playerOf 25 = .ok (.ifCond .eq 12, 3) := by decide +kernel
theorem dX7_playerOf_28 : decode cX7_playerOf 28 = .ok (.aload_n 0, 1) := by decide +kernel
theorem dX7_playerOf_29 : decode cX7_playerOf 29 = .ok (.iload_n 1, 1) := by decide +kernel
theorem dX7_playerOf_30 : decode cX7_playerOf 30 = .ok (.iload_n 2, 1) := by decide +kernel
theorem dX7_playerOf_31 : decode cX7_playerOf 31 = .ok (.invokevirtual 151, 3) := by decide +kernel
theorem dX7_playerOf_34 : decode cX7_playerOf 34 = .ok (.goto 8, 3) := by decide +kernel
theorem dX7_playerOf_37 : decode cX7_playerOf 37 = .ok (.aload_n 0, 1) := by decide +kernel
theorem dX7_playerOf_38 : decode cX7_playerOf 38 = .ok (.iconst 2, 1) := by decide +kernel
theorem dX7_playerOf_39 : decode cX7_playerOf 39 = .ok (.invokevirtual 40, 3) := by decide +kernel
theorem dX7_playerOf_42 : decode cX7_playerOf 42 = .ok (.ireturn, 1) := by decide +kernel
theorem dX7_echoAt_0 : decode cX7_echoAt 0 = .ok (.iconst (-1), 1) := by decide +kernel
theorem dX7_echoAt_1 : decode cX7_echoAt 1 = .ok (.istore_n 2, 1) := by decide +kernel
theorem dX7_echoAt_2 : decode cX7_echoAt 2 = .ok (.iconst 0, 1) := by decide +kernel
theorem dX7_echoAt_3 : decode cX7_echoAt 3 = .ok (.istore_n 3, 1) := by decide +kernel
theorem dX7_echoAt_4 : decode cX7_echoAt 4 = .ok (.iload_n 3, 1) := by decide +kernel
theorem dX7_echoAt_5 : decode cX7_echoAt 5 = .ok (.aload_n 0, 1) := by decide +kernel
theorem dX7_echoAt_6 : decode cX7_echoAt 6 = .ok (.getfield 7, 3) := by decide +kernel
theorem dX7_echoAt_9 : decode cX7_echoAt 9 = .ok (.bipush 9, 2) := by decide +kernel
theorem dX7_echoAt_11 : decode cX7_echoAt 11 = .ok (.iaload, 1) := by decide +kernel
theorem dX7_echoAt_12 : decode cX7_echoAt 12 = .ok (.if_icmp .ge 87, 3) := by decide +kernel
theorem dX7_echoAt_15 : decode cX7_echoAt 15 = .ok (.iconst 0, 1) := by decide +kernel
theorem dX7_echoAt_16 : decode cX7_echoAt 16 = .ok (.istore 4, 2) := by decide +kernel
theorem dX7_echoAt_18 : decode cX7_echoAt 18 = .ok (.iconst 0, 1) := by decide +kernel
theorem dX7_echoAt_19 : decode cX7_echoAt 19 = .ok (.istore 5, 2) := by decide +kernel
theorem dX7_echoAt_21 : decode cX7_echoAt 21 = .ok (.iload 5, 2) := by decide +kernel
theorem dX7_echoAt_23 : decode cX7_echoAt 23 = .ok (.aload_n 0, 1) := by decide +kernel
theorem dX7_echoAt_24 : decode cX7_echoAt 24 = .ok (.getfield 7, 3) := by decide +kernel
theorem dX7_echoAt_27 : decode cX7_echoAt 27 = .ok (.bipush 9, 2) := by decide +kernel
theorem dX7_echoAt_29 : decode cX7_echoAt 29 = .ok (.iaload, 1) := by decide +kernel
theorem dX7_echoAt_30 : decode cX7_echoAt 30 = .ok (.if_icmp .ge 51, 3) := by decide +kernel
theorem dX7_echoAt_33 : decode cX7_echoAt 33 = .ok (.aload_n 0, 1) := by decide +kernel
theorem dX7_echoAt_34 : decode cX7_echoAt 34 = .ok (.iload 5, 2) := by decide +kernel
theorem dX7_echoAt_36 : decode cX7_echoAt 36 = .ok (.iconst 3, 1) := by decide +kernel
theorem dX7_echoAt_37 : decode cX7_echoAt 37 = .ok (.invokevirtual 54, 3) := by decide +kernel
theorem dX7_echoAt_40 : decode cX7_echoAt 40 = .ok (.aload_n 0, 1) := by decide +kernel
theorem dX7_echoAt_41 : decode cX7_echoAt 41 = .ok (.iload_n 3, 1) := by decide +kernel
theorem dX7_echoAt_42 : decode cX7_echoAt 42 = .ok (.iconst 3, 1) := by decide +kernel
theorem dX7_echoAt_43 : decode cX7_echoAt 43 = .ok (.invokevirtual 54, 3) := by decide +kernel
theorem dX7_echoAt_46 : decode cX7_echoAt 46 = .ok (.isub, 1) := by decide +kernel
theorem dX7_echoAt_47 : decode cX7_echoAt 47 = .ok (.istore 6, 2) := by decide +kernel
theorem dX7_echoAt_49 : decode cX7_echoAt 49 = .ok (.iload 4, 2) := by decide +kernel
theorem dX7_echoAt_51 : decode cX7_echoAt 51 = .ok (.iload 6, 2) := by decide +kernel
theorem dX7_echoAt_53 : decode cX7_echoAt 53 = .ok (.ifCond .lt 14, 3) := by decide +kernel
theorem dX7_echoAt_56 : decode cX7_echoAt 56 = .ok (.iload 6, 2) := by decide +kernel
theorem dX7_echoAt_58 : decode cX7_echoAt 58 = .ok (.ifCond .ne 13, 3) := by decide +kernel
theorem dX7_echoAt_61 : decode cX7_echoAt 61 = .ok (.iload 5, 2) := by decide +kernel
theorem dX7_echoAt_63 : decode cX7_echoAt 63 = .ok (.iload_n 3, 1) := by decide +kernel
theorem dX7_echoAt_64 : decode cX7_echoAt 64 = .ok (.if_icmp .ge 7, 3) := by decide +kernel
theorem dX7_echoAt_67 : decode cX7_echoAt 67 = .ok (.iconst 1, 1) := by decide +kernel
theorem dX7_echoAt_68 : decode cX7_echoAt 68 = .ok (.goto 4, 3) := by decide +kernel
theorem dX7_echoAt_71 : decode cX7_echoAt 71 = .ok (.iconst 0, 1) := by decide +kernel
theorem dX7_echoAt_72 : decode cX7_echoAt 72 = .ok (.iadd, 1) := by decide +kernel
theorem dX7_echoAt_73 : decode cX7_echoAt 73 = .ok (.istore 4, 2) := by decide +kernel
theorem dX7_echoAt_75 : decode cX7_echoAt 75 = .ok (.iinc 5 1, 3) := by decide +kernel
theorem dX7_echoAt_78 : decode cX7_echoAt 78 = .ok (.goto (-57), 3) := by decide +kernel
theorem dX7_echoAt_81 : decode cX7_echoAt 81 = .ok (.iload 4, 2) := by decide +kernel
theorem dX7_echoAt_83 : decode cX7_echoAt 83 = .ok (.iload_n 1, 1) := by decide +kernel
theorem dX7_echoAt_84 : decode cX7_echoAt 84 = .ok (.if_icmp .ne 7, 3) := by decide +kernel
theorem dX7_echoAt_87 : decode cX7_echoAt 87 = .ok (.iload_n 3, 1) := by decide +kernel
theorem dX7_echoAt_88 : decode cX7_echoAt 88 = .ok (.goto 4, 3) := by decide +kernel
theorem dX7_echoAt_91 : decode cX7_echoAt 91 = .ok (.iload_n 2, 1) := by decide +kernel
theorem dX7_echoAt_92 : decode cX7_echoAt 92 = .ok (.istore_n 2, 1) := by decide +kernel
theorem dX7_echoAt_93 : decode cX7_echoAt 93 = .ok (.iinc 3 1, 3) := by decide +kernel
theorem dX7_echoAt_96 : decode cX7_echoAt 96 = .ok (.goto (-92), 3) := by decide +kernel
theorem dX7_echoAt_99 : decode cX7_echoAt 99 = .ok (.iload_n 2, 1) := by decide +kernel
theorem dX7_echoAt_100 : decode cX7_echoAt 100 = .ok (.ireturn, 1) := by decide +kernel
theorem dX7_tellsEcho_0 : decode cX7_tellsEcho 0 = .ok (.aload_n 0, 1) := by decide +kernel
theorem dX7_tellsEcho_1 : decode cX7_tellsEcho 1 = .ok (.iload_n 1, 1) := by decide +kernel
theorem dX7_tellsEcho_2 : decode cX7_tellsEcho 2 = .ok (.invokevirtual 154, 3) := by decide +kernel
theorem dX7_tellsEcho_5 : decode cX7_tellsEcho 5 = .ok (.istore_n 3, 1) := by decide +kernel
theorem dX7_tellsEcho_6 : decode cX7_tellsEcho 6 = .ok (.iload_n 3, 1) := by decide +kernel
theorem dX7_tellsEcho_7 : decode cX7_tellsEcho 7 = .ok (.iconst (-1), 1) := by decide +kernel
theorem dX7_tellsEcho_8 : decode cX7_tellsEcho 8 = .ok (.if_icmp .ne 5, 3) := by decide +kernel
theorem dX7_tellsEcho_11 : decode cX7_tellsEcho 11 = .ok (.iconst (-1), 1) := by decide +kernel
theorem dX7_tellsEcho_12 : decode cX7_tellsEcho 12 = .ok (.ireturn, 1) := by decide +kernel
theorem dX7_tellsEcho_13 : decode cX7_tellsEcho 13 = .ok (.iload_n 2, 1) := by decide +kernel
theorem dX7_tellsEcho_14 : decode cX7_tellsEcho 14 = .ok (.tableswitch 73 3 5 #[26, 40, 47], 26) := by decide +kernel
theorem dX7_tellsEcho_40 : decode cX7_tellsEcho 40 = .ok (.aload_n 0, 1) := by decide +kernel
theorem dX7_tellsEcho_41 : decode cX7_tellsEcho 41 = .ok (.iload_n 3, 1) := by decide +kernel
theorem dX7_tellsEcho_42 : decode cX7_tellsEcho 42 = .ok (.iconst 3, 1) := by decide +kernel
theorem dX7_tellsEcho_43 : decode cX7_tellsEcho 43 = .ok (.invokevirtual 54, 3) := by decide +kernel
theorem dX7_tellsEcho_46 : decode cX7_tellsEcho 46 = .ok (.aload_n 0, 1) := by decide +kernel
theorem dX7_tellsEcho_47 : decode cX7_tellsEcho 47 = .ok (.getfield 7, 3) := by decide +kernel
theorem dX7_tellsEcho_50 : decode cX7_tellsEcho 50 = .ok (.iconst 3, 1) := by decide +kernel
theorem dX7_tellsEcho_51 : decode cX7_tellsEcho 51 = .ok (.iaload, 1) := by decide +kernel
theorem dX7_tellsEcho_52 : decode cX7_tellsEcho 52 = .ok (.isub, 1) := by decide +kernel
theorem dX7_tellsEcho_53 : decode cX7_tellsEcho 53 = .ok (.ireturn, 1) := by decide +kernel
theorem dX7_tellsEcho_54 : decode cX7_tellsEcho 54 = .ok (.aload_n 0, 1) := by decide +kernel
theorem dX7_tellsEcho_55 : decode cX7_tellsEcho 55 = .ok (.iload_n 3, 1) := by decide +kernel
theorem dX7_tellsEcho_56 : decode cX7_tellsEcho 56 = .ok (.iconst 4, 1) := by decide +kernel
theorem dX7_tellsEcho_57 : decode cX7_tellsEcho 57 = .ok (.invokevirtual 54, 3) := by decide +kernel
theorem dX7_tellsEcho_60 : decode cX7_tellsEcho 60 = .ok (.ireturn, 1) := by decide +kernel
theorem dX7_tellsEcho_61 : decode cX7_tellsEcho 61 = .ok (.aload_n 0, 1) := by decide +kernel
theorem dX7_tellsEcho_62 : decode cX7_tellsEcho 62 = .ok (.aload_n 0, 1) := by decide +kernel
theorem dX7_tellsEcho_63 : decode cX7_tellsEcho 63 = .ok (.iload_n 3, 1) := by decide +kernel
theorem dX7_tellsEcho_64 : decode cX7_tellsEcho 64 = .ok (.iconst 1, 1) := by decide +kernel
theorem dX7_tellsEcho_65 : decode cX7_tellsEcho 65 = .ok (.invokevirtual 54, 3) := by decide +kernel
theorem dX7_tellsEcho_68 : decode cX7_tellsEcho 68 = .ok (.aload_n 0, 1) := by decide +kernel
theorem dX7_tellsEcho_69 : decode cX7_tellsEcho 69 = .ok (.iload_n 3, 1) := by decide +kernel
theorem dX7_tellsEcho_70 : decode cX7_tellsEcho 70 = .ok (.iconst 3, 1) := by decide +kernel
theorem dX7_tellsEcho_71 : decode cX7_tellsEcho 71 = .ok (.invokevirtual 54, 3) := by decide +kernel
theorem dX7_tellsEcho_74 : decode cX7_tellsEcho 74 = .ok (.invokevirtual 77, 3) := by decide +kernel
theorem dX7_tellsEcho_77 : decode cX7_tellsEcho 77 = .ok (.iconst 1, 1) := by decide +kernel
theorem dX7_tellsEcho_78 : decode cX7_tellsEcho 78 = .ok (.if_icmp .le 7, 3) := by decide +kernel
theorem dX7_tellsEcho_81 : decode cX7_tellsEcho 81 = .ok (.iconst 1, 1) := by decide +kernel
theorem dX7_tellsEcho_82 : decode cX7_tellsEcho 82 = .ok (.goto 4, 3) := by decide +kernel
theorem dX7_tellsEcho_85 : decode cX7_tellsEcho 85 = .ok (.iconst 0, 1) := by decide +kernel
theorem dX7_tellsEcho_86 : decode cX7_tellsEcho 86 = .ok (.ireturn, 1) := by decide +kernel
theorem dX7_tellsEcho_87 : decode cX7_tellsEcho 87 = .ok (.aload_n 0, 1) := by decide +kernel
theorem dX7_tellsEcho_88 : decode cX7_tellsEcho 88 = .ok (.iload_n 3, 1) := by decide +kernel
theorem dX7_tellsEcho_89 : decode cX7_tellsEcho 89 = .ok (.iload_n 2, 1) := by decide +kernel
theorem dX7_tellsEcho_90 : decode cX7_tellsEcho 90 = .ok (.invokevirtual 54, 3) := by decide +kernel
theorem dX7_tellsEcho_93 : decode cX7_tellsEcho 93 = .ok (.ireturn, 1) := by decide +kernel
theorem dX7_echoOf_0 : decode cX7_echoOf 0 = .ok (.aload_n 0, 1) := by decide +kernel
theorem dX7_echoOf_1 : decode cX7_echoOf 1 = .ok (.iconst 0, 1) := by decide +kernel
theorem dX7_echoOf_2 : decode cX7_echoOf 2 = .ok (.putfield 25, 3) := by decide +kernel
theorem dX7_echoOf_5 : decode cX7_echoOf 5 = .ok (.iload_n 1, 1) := by decide +kernel
theorem dX7_echoOf_6 : decode cX7_echoOf 6 = .ok (.ifCond .lt 21, 3) := by decide +kernel
theorem dX7_echoOf_9 : decode cX7_echoOf 9 = .ok (.iload_n 2, 1) := by decide +kernel
theorem dX7_echoOf_10 : decode cX7_echoOf 10 = .ok (.iconst 0, 1) := by decide +kernel
theorem dX7_echoOf_11 : decode cX7_echoOf 11 = .ok (.iconst 5, 1) := by decide +kernel
theorem dX7_echoOf_12 : decode cX7_echoOf 12 = .ok (.invokestatic 29, 3) := by decide +kernel
theorem dX7_echoOf_15 : decode cX7_echoOf 15 = .ok (.ifCond .eq 12, 3) := by decide +kernel
theorem dX7_echoOf_18 : decode cX7_echoOf 18 = .ok (.aload_n 0, 1) := by decide +kernel
theorem dX7_echoOf_19 : decode cX7_echoOf 19 = .ok (.iload_n 1, 1) := by decide +kernel
theorem dX7_echoOf_20 : decode cX7_echoOf 20 = .ok (.iload_n 2, 1) := by decide +kernel
theorem dX7_echoOf_21 : decode cX7_echoOf 21 = .ok (.invokevirtual 157, 3) := by decide +kernel
theorem dX7_echoOf_24 : decode cX7_echoOf 24 = .ok (.goto 8, 3) := by decide +kernel
theorem dX7_echoOf_27 : decode cX7_echoOf 27 = .ok (.aload_n 0, 1) := by decide +kernel
theorem dX7_echoOf_28 : decode cX7_echoOf 28 = .ok (.iconst 1, 1) := by decide +kernel
theorem dX7_echoOf_29 : decode cX7_echoOf 29 = .ok (.invokevirtual 40, 3) := by decide +kernel
theorem dX7_echoOf_32 : decode cX7_echoOf 32 = .ok (.ireturn, 1) := by decide +kernel
theorem dX7_tellsCount_0 : decode cX7_tellsCount 0 = .ok (.iload_n 1, 1) := by decide +kernel
theorem dX7_tellsCount_1 : decode cX7_tellsCount 1 = .ok (.tableswitch 136 0 10 #[59, 66, 73, 80, 88, 96, 104, 110, 116, 122, 128], 59) := by decide +kernel
theorem dX7_tellsCount_60 : decode cX7_tellsCount 60 = .ok (.aload_n 0, 1) := by decide +kernel
theorem dX7_tellsCount_61 : decode cX7_tellsCount 61 = .ok (.getfield 7, 3) := by decide +kernel
theorem dX7_tellsCount_64 : decode cX7_tellsCount 64 = .ok (.iconst 3, 1) := by decide +kernel
theorem dX7_tellsCount_65 : decode cX7_tellsCount 65 = .ok (.iaload, 1) := by decide +kernel
theorem dX7_tellsCount_66 : decode cX7_tellsCount 66 = .ok (.ireturn, 1) := by decide +kernel
theorem dX7_tellsCount_67 : decode cX7_tellsCount 67 = .ok (.aload_n 0, 1) := by decide +kernel
theorem dX7_tellsCount_68 : decode cX7_tellsCount 68 = .ok (.getfield 7, 3) := by decide +kernel
theorem dX7_tellsCount_71 : decode cX7_tellsCount 71 = .ok (.iconst 4, 1) := by decide +kernel
theorem dX7_tellsCount_72 : decode cX7_tellsCount 72 = .ok (.iaload, 1) := by decide +kernel
theorem dX7_tellsCount_73 : decode cX7_tellsCount 73 = .ok (.ireturn, 1) := by decide +kernel
theorem dX7_tellsCount_74 : decode cX7_tellsCount 74 = .ok (.aload_n 0, 1) := by decide +kernel
theorem dX7_tellsCount_75 : decode cX7_tellsCount 75 = .ok (.getfield 7, 3) := by decide +kernel
theorem dX7_tellsCount_78 : decode cX7_tellsCount 78 = .ok (.iconst 5, 1) := by decide +kernel
theorem dX7_tellsCount_79 : decode cX7_tellsCount 79 = .ok (.iaload, 1) := by decide +kernel
theorem dX7_tellsCount_80 : decode cX7_tellsCount 80 = .ok (.ireturn, 1) := by decide +kernel
theorem dX7_tellsCount_81 : decode cX7_tellsCount 81 = .ok (.aload_n 0, 1) := by decide +kernel
theorem dX7_tellsCount_82 : decode cX7_tellsCount 82 = .ok (.getfield 7, 3) := by decide +kernel
theorem dX7_tellsCount_85 : decode cX7_tellsCount 85 = .ok (.bipush 6, 2) := by decide +kernel
theorem dX7_tellsCount_87 : decode cX7_tellsCount 87 = .ok (.iaload, 1) := by decide +kernel
theorem dX7_tellsCount_88 : decode cX7_tellsCount 88 = .ok (.ireturn, 1) := by decide +kernel
theorem dX7_tellsCount_89 : decode cX7_tellsCount 89 = .ok (.aload_n 0, 1) := by decide +kernel
theorem dX7_tellsCount_90 : decode cX7_tellsCount 90 = .ok (.getfield 7, 3) := by decide +kernel
theorem dX7_tellsCount_93 : decode cX7_tellsCount 93 = .ok (.bipush 9, 2) := by decide +kernel
theorem dX7_tellsCount_95 : decode cX7_tellsCount 95 = .ok (.iaload, 1) := by decide +kernel
theorem dX7_tellsCount_96 : decode cX7_tellsCount 96 = .ok (.ireturn, 1) := by decide +kernel
theorem dX7_tellsCount_97 : decode cX7_tellsCount 97 = .ok (.aload_n 0, 1) := by decide +kernel
theorem dX7_tellsCount_98 : decode cX7_tellsCount 98 = .ok (.getfield 7, 3) := by decide +kernel
theorem dX7_tellsCount_101 : decode cX7_tellsCount 101 = .ok (.bipush 8, 2) := by decide +kernel
theorem dX7_tellsCount_103 : decode cX7_tellsCount 103 = .ok (.iaload, 1) := by decide +kernel
theorem dX7_tellsCount_104 : decode cX7_tellsCount 104 = .ok (.ireturn, 1) := by decide +kernel
theorem dX7_tellsCount_105 : decode cX7_tellsCount 105 = .ok (.aload_n 0, 1) := by decide +kernel
theorem dX7_tellsCount_106 : decode cX7_tellsCount 106 = .ok (.iconst 3, 1) := by decide +kernel
theorem dX7_tellsCount_107 : decode cX7_tellsCount 107 = .ok (.invokevirtual 160, 3) := by decide +kernel
theorem dX7_tellsCount_110 : decode cX7_tellsCount 110 = .ok (.ireturn, 1) := by decide +kernel
theorem dX7_tellsCount_111 : decode cX7_tellsCount 111 = .ok (.aload_n 0, 1) := by decide +kernel
theorem dX7_tellsCount_112 : decode cX7_tellsCount 112 = .ok (.iconst 4, 1) := by decide +kernel
theorem dX7_tellsCount_113 : decode cX7_tellsCount 113 = .ok (.invokevirtual 160, 3) := by decide +kernel
theorem dX7_tellsCount_116 : decode cX7_tellsCount 116 = .ok (.ireturn, 1) := by decide +kernel
theorem dX7_tellsCount_117 : decode cX7_tellsCount 117 = .ok (.aload_n 0, 1) := by decide +kernel
theorem dX7_tellsCount_118 : decode cX7_tellsCount 118 = .ok (.iconst 5, 1) := by decide +kernel
theorem dX7_tellsCount_119 : decode cX7_tellsCount 119 = .ok (.invokevirtual 160, 3) := by decide +kernel
theorem dX7_tellsCount_122 : decode cX7_tellsCount 122 = .ok (.ireturn, 1) := by decide +kernel
theorem dX7_tellsCount_123 : decode cX7_tellsCount 123 = .ok (.aload_n 0, 1) := by decide +kernel
theorem dX7_tellsCount_124 : decode cX7_tellsCount 124 = .ok (.iconst 1, 1) := by decide +kernel
theorem dX7_tellsCount_125 : decode cX7_tellsCount 125 = .ok (.invokevirtual 160, 3) := by decide +kernel
theorem dX7_tellsCount_128 : decode cX7_tellsCount 128 = .ok (.ireturn, 1) := by decide +kernel
theorem dX7_tellsCount_129 : decode cX7_tellsCount 129 = .ok (.aload_n 0, 1) := by decide +kernel
theorem dX7_tellsCount_130 : decode cX7_tellsCount 130 = .ok (.getfield 7, 3) := by decide +kernel
theorem dX7_tellsCount_133 : decode cX7_tellsCount 133 = .ok (.bipush 7, 2) := by decide +kernel
theorem dX7_tellsCount_135 : decode cX7_tellsCount 135 = .ok (.iaload, 1) := by decide +kernel
theorem dX7_tellsCount_136 : decode cX7_tellsCount 136 = .ok (.ireturn, 1) := by decide +kernel
theorem dX7_tellsCount_137 : decode cX7_tellsCount 137 = .ok (.aload_n 0, 1) := by decide +kernel
theorem dX7_tellsCount_138 : decode cX7_tellsCount 138 = .ok (.getfield 37, 3) := by decide +kernel
theorem dX7_tellsCount_141 : decode cX7_tellsCount 141 = .ok (.ireturn, 1) := by decide +kernel
theorem dX7_count_0 : decode cX7_count 0 = .ok (.aload_n 0, 1) := by decide +kernel
theorem dX7_count_1 : decode cX7_count 1 = .ok (.iconst 0, 1) := by decide +kernel
theorem dX7_count_2 : decode cX7_count 2 = .ok (.putfield 25, 3) := by decide +kernel
theorem dX7_count_5 : decode cX7_count 5 = .ok (.iload_n 1, 1) := by decide +kernel
theorem dX7_count_6 : decode cX7_count 6 = .ok (.iconst 0, 1) := by decide +kernel
theorem dX7_count_7 : decode cX7_count 7 = .ok (.bipush 11, 2) := by decide +kernel
theorem dX7_count_9 : decode cX7_count 9 = .ok (.invokestatic 29, 3) := by decide +kernel
theorem dX7_count_12 : decode cX7_count 12 = .ok (.ifCond .eq 11, 3) := by decide +kernel
theorem dX7_count_15 : decode cX7_count 15 = .ok (.aload_n 0, 1) := by decide +kernel
theorem dX7_count_16 : decode cX7_count 16 = .ok (.iload_n 1, 1) := by decide +kernel
theorem dX7_count_17 : decode cX7_count 17 = .ok (.invokevirtual 163, 3) := by decide +kernel
theorem dX7_count_20 : decode cX7_count 20 = .ok (.goto 8, 3) := by decide +kernel
theorem dX7_count_23 : decode cX7_count 23 = .ok (.aload_n 0, 1) := by decide +kernel
theorem dX7_count_24 : decode cX7_count 24 = .ok (.iconst 1, 1) := by decide +kernel
theorem dX7_count_25 : decode cX7_count 25 = .ok (.invokevirtual 40, 3) := by decide +kernel
theorem dX7_count_28 : decode cX7_count 28 = .ok (.ireturn, 1) := by decide +kernel
theorem dX7_setting_0 : decode cX7_setting 0 = .ok (.aload_n 0, 1) := by decide +kernel
theorem dX7_setting_1 : decode cX7_setting 1 = .ok (.iconst 0, 1) := by decide +kernel
theorem dX7_setting_2 : decode cX7_setting 2 = .ok (.putfield 25, 3) := by decide +kernel
theorem dX7_setting_5 : decode cX7_setting 5 = .ok (.iload_n 1, 1) := by decide +kernel
theorem dX7_setting_6 : decode cX7_setting 6 = .ok (.iconst 0, 1) := by decide +kernel
theorem dX7_setting_7 : decode cX7_setting 7 = .ok (.iconst 2, 1) := by decide +kernel
theorem dX7_setting_8 : decode cX7_setting 8 = .ok (.invokestatic 29, 3) := by decide +kernel
theorem dX7_setting_11 : decode cX7_setting 11 = .ok (.ifCond .eq 12, 3) := by decide +kernel
theorem dX7_setting_14 : decode cX7_setting 14 = .ok (.aload_n 0, 1) := by decide +kernel
theorem dX7_setting_15 : decode cX7_setting 15 = .ok (.getfield 7, 3) := by decide +kernel
theorem dX7_setting_18 : decode cX7_setting 18 = .ok (.iload_n 1, 1) := by decide +kernel
theorem dX7_setting_19 : decode cX7_setting 19 = .ok (.iaload, 1) := by decide +kernel
theorem dX7_setting_20 : decode cX7_setting 20 = .ok (.goto 8, 3) := by decide +kernel
theorem dX7_setting_23 : decode cX7_setting 23 = .ok (.aload_n 0, 1) := by decide +kernel
theorem dX7_setting_24 : decode cX7_setting 24 = .ok (.iconst 1, 1) := by decide +kernel
theorem dX7_setting_25 : decode cX7_setting 25 = .ok (.invokevirtual 40, 3) := by decide +kernel
theorem dX7_setting_28 : decode cX7_setting 28 = .ok (.ireturn, 1) := by decide +kernel
theorem dX7_tellsBall_0 : decode cX7_tellsBall 0 = .ok (.iload_n 1, 1) := by decide +kernel
theorem dX7_tellsBall_1 : decode cX7_tellsBall 1 = .ok (.aload_n 0, 1) := by decide +kernel
theorem dX7_tellsBall_2 : decode cX7_tellsBall 2 = .ok (.getfield 7, 3) := by decide +kernel
theorem dX7_tellsBall_5 : decode cX7_tellsBall 5 = .ok (.iconst 5, 1) := by decide +kernel
theorem dX7_tellsBall_6 : decode cX7_tellsBall 6 = .ok (.iaload, 1) := by decide +kernel
theorem dX7_tellsBall_7 : decode cX7_tellsBall 7 = .ok (.imul, 1) := by decide +kernel
theorem dX7_tellsBall_8 : decode cX7_tellsBall 8 = .ok (.istore_n 3, 1) := by decide +kernel
theorem dX7_tellsBall_9 : decode cX7_tellsBall 9 = .ok (.aload_n 0, 1) := by decide +kernel
theorem dX7_tellsBall_10 : decode cX7_tellsBall 10 = .ok (.invokevirtual 71, 3) := by decide +kernel
theorem dX7_tellsBall_13 : decode cX7_tellsBall 13 = .ok (.aload_n 0, 1) := by decide +kernel
theorem dX7_tellsBall_14 : decode cX7_tellsBall 14 = .ok (.iload_n 3, 1) := by decide +kernel
theorem dX7_tellsBall_15 : decode cX7_tellsBall 15 = .ok (.invokevirtual 74, 3) := by decide +kernel
theorem dX7_tellsBall_18 : decode cX7_tellsBall 18 = .ok (.iload_n 2, 1) := by decide +kernel
theorem dX7_tellsBall_19 : decode cX7_tellsBall 19 = .ok (.ifCond .ne 10, 3) := by decide +kernel
theorem dX7_tellsBall_22 : decode cX7_tellsBall 22 = .ok (.aload_n 0, 1) := by decide +kernel
theorem dX7_tellsBall_23 : decode cX7_tellsBall 23 = .ok (.getfield 47, 3) := by decide +kernel
theorem dX7_tellsBall_26 : decode cX7_tellsBall 26 = .ok (.goto 28, 3) := by decide +kernel
theorem dX7_tellsBall_29 : decode cX7_tellsBall 29 = .ok (.iload_n 2, 1) := by decide +kernel
theorem dX7_tellsBall_30 : decode cX7_tellsBall 30 = .ok (.iconst 1, 1) := by decide +kernel
theorem dX7_tellsBall_31 : decode cX7_tellsBall 31 = .ok (.if_icmp .ne 11, 3) := by decide +kernel
theorem dX7_tellsBall_34 : decode cX7_tellsBall 34 = .ok (.aload_n 0, 1) := by decide +kernel
theorem dX7_tellsBall_35 : decode cX7_tellsBall 35 = .ok (.iload_n 3, 1) := by decide +kernel
theorem dX7_tellsBall_36 : decode cX7_tellsBall 36 = .ok (.invokevirtual 166, 3) := by decide +kernel
theorem dX7_tellsBall_39 : decode cX7_tellsBall 39 = .ok (.goto 15, 3) := by decide +kernel
theorem dX7_tellsBall_42 : decode cX7_tellsBall 42 = .ok (.aload_n 0, 1) := by decide +kernel
theorem dX7_tellsBall_43 : decode cX7_tellsBall 43 = .ok (.getfield 50, 3) := by decide +kernel
theorem dX7_tellsBall_46 : decode cX7_tellsBall 46 = .ok (.ifCond .eq 7, 3) := by decide +kernel
theorem dX7_tellsBall_49 : decode cX7_tellsBall 49 = .ok (.iconst 1, 1) := by decide +kernel
theorem dX7_tellsBall_50 : decode cX7_tellsBall 50 = .ok (.goto 4, 3) := by decide +kernel
theorem dX7_tellsBall_53 : decode cX7_tellsBall 53 = .ok (.iconst 0, 1) := by decide +kernel
theorem dX7_tellsBall_54 : decode cX7_tellsBall 54 = .ok (.ireturn, 1) := by decide +kernel
theorem dX7_ballIn_0 : decode cX7_ballIn 0 = .ok (.aload_n 0, 1) := by decide +kernel
theorem dX7_ballIn_1 : decode cX7_ballIn 1 = .ok (.iconst 0, 1) := by decide +kernel
theorem dX7_ballIn_2 : decode cX7_ballIn 2 = .ok (.putfield 25, 3) := by decide +kernel
theorem dX7_ballIn_5 : decode cX7_ballIn 5 = .ok (.iload_n 1, 1) := by decide +kernel
theorem dX7_ballIn_6 : decode cX7_ballIn 6 = .ok (.iconst 0, 1) := by decide +kernel
theorem dX7_ballIn_7 : decode cX7_ballIn 7 = .ok (.bipush 99, 2) := by decide +kernel
theorem dX7_ballIn_9 : decode cX7_ballIn 9 = .ok (.invokestatic 29, 3) := by decide +kernel
theorem dX7_ballIn_12 : decode cX7_ballIn 12 = .ok (.ifCond .eq 21, 3) := by decide +kernel
theorem dX7_ballIn_15 : decode cX7_ballIn 15 = .ok (.iload_n 2, 1) := by decide +kernel
theorem dX7_ballIn_16 : decode cX7_ballIn 16 = .ok (.iconst 0, 1) := by decide +kernel
theorem dX7_ballIn_17 : decode cX7_ballIn 17 = .ok (.iconst 2, 1) := by decide +kernel
theorem dX7_ballIn_18 : decode cX7_ballIn 18 = .ok (.invokestatic 29, 3) := by decide +kernel
theorem dX7_ballIn_21 : decode cX7_ballIn 21 = .ok (.ifCond .eq 12, 3) := by decide +kernel
theorem dX7_ballIn_24 : decode cX7_ballIn 24 = .ok (.aload_n 0, 1) := by decide +kernel
theorem dX7_ballIn_25 : decode cX7_ballIn 25 = .ok (.iload_n 1, 1) := by decide +kernel
theorem dX7_ballIn_26 : decode cX7_ballIn 26 = .ok (.iload_n 2, 1) := by decide +kernel
theorem dX7_ballIn_27 : decode cX7_ballIn 27 = .ok (.invokevirtual 169, 3) := by decide +kernel
theorem dX7_ballIn_30 : decode cX7_ballIn 30 = .ok (.goto 8, 3) := by decide +kernel
theorem dX7_ballIn_33 : decode cX7_ballIn 33 = .ok (.aload_n 0, 1) := by decide +kernel
theorem dX7_ballIn_34 : decode cX7_ballIn 34 = .ok (.iconst 1, 1) := by decide +kernel
theorem dX7_ballIn_35 : decode cX7_ballIn 35 = .ok (.invokevirtual 40, 3) := by decide +kernel
theorem dX7_ballIn_38 : decode cX7_ballIn 38 = .ok (.ireturn, 1) := by decide +kernel
theorem dX7_delayOf_0 : decode cX7_delayOf 0 = .ok (.aload_n 0, 1) := by decide +kernel
theorem dX7_delayOf_1 : decode cX7_delayOf 1 = .ok (.aload_n 0, 1) := by decide +kernel
theorem dX7_delayOf_2 : decode cX7_delayOf 2 = .ok (.iload_n 1, 1) := by decide +kernel
theorem dX7_delayOf_3 : decode cX7_delayOf 3 = .ok (.iconst 0, 1) := by decide +kernel
theorem dX7_delayOf_4 : decode cX7_delayOf 4 = .ok (.invokevirtual 33, 3) := by decide +kernel
theorem dX7_delayOf_7 : decode cX7_delayOf 7 = .ok (.iload_n 2, 1) := by decide +kernel
theorem dX7_delayOf_8 : decode cX7_delayOf 8 = .ok (.invokevirtual 57, 3) := by decide +kernel
theorem dX7_delayOf_11 : decode cX7_delayOf 11 = .ok (.ireturn, 1) := by decide +kernel
theorem dX7_echoIn_0 : decode cX7_echoIn 0 = .ok (.aload_n 0, 1) := by decide +kernel
theorem dX7_echoIn_1 : decode cX7_echoIn 1 = .ok (.iconst 0, 1) := by decide +kernel
theorem dX7_echoIn_2 : decode cX7_echoIn 2 = .ok (.putfield 25, 3) := by decide +kernel
theorem dX7_echoIn_5 : decode cX7_echoIn 5 = .ok (.iload_n 1, 1) := by decide +kernel
theorem dX7_echoIn_6 : decode cX7_echoIn 6 = .ok (.invokestatic 91, 3) := by decide +kernel
theorem dX7_echoIn_9 : decode cX7_echoIn 9 = .ok (.ifCond .ne 9, 3) := by decide +kernel
theorem dX7_echoIn_12 : decode cX7_echoIn 12 = .ok (.aload_n 0, 1) := by decide +kernel
theorem dX7_echoIn_13 : decode cX7_echoIn 13 = .ok (.iconst 1, 1) := by decide +kernel
theorem dX7_echoIn_14 : decode cX7_echoIn 14 = .ok (.invokevirtual 40, 3) := by decide +kernel
theorem dX7_echoIn_17 : decode cX7_echoIn 17 = .ok (.ireturn, 1) := by decide +kernel
theorem dX7_echoIn_18 : decode cX7_echoIn 18 = .ok (.iload_n 2, 1) := by decide +kernel
theorem dX7_echoIn_19 : decode cX7_echoIn 19 = .ok (.iconst 0, 1) := by decide +kernel
theorem dX7_echoIn_20 : decode cX7_echoIn 20 = .ok (.iconst 1, 1) := by decide +kernel
theorem dX7_echoIn_21 : decode cX7_echoIn 21 = .ok (.invokestatic 29, 3) := by decide +kernel
theorem dX7_echoIn_24 : decode cX7_echoIn 24 = .ok (.ifCond .eq 12, 3) := by decide +kernel
theorem dX7_echoIn_27 : decode cX7_echoIn 27 = .ok (.aload_n 0, 1) := by decide +kernel
theorem dX7_echoIn_28 : decode cX7_echoIn 28 = .ok (.iload_n 1, 1) := by decide +kernel
theorem dX7_echoIn_29 : decode cX7_echoIn 29 = .ok (.iload_n 2, 1) := by decide +kernel
theorem dX7_echoIn_30 : decode cX7_echoIn 30 = .ok (.invokevirtual 172, 3) := by decide +kernel
theorem dX7_echoIn_33 : decode cX7_echoIn 33 = .ok (.goto 8, 3) := by decide +kernel
theorem dX7_echoIn_36 : decode cX7_echoIn 36 = .ok (.aload_n 0, 1) := by decide +kernel
theorem dX7_echoIn_37 : decode cX7_echoIn 37 = .ok (.iconst 2, 1) := by decide +kernel
theorem dX7_echoIn_38 : decode cX7_echoIn 38 = .ok (.invokevirtual 40, 3) := by decide +kernel
theorem dX7_echoIn_41 : decode cX7_echoIn 41 = .ok (.ireturn, 1) := by decide +kernel
theorem dX7_isClash_0 : decode cX7_isClash 0 = .ok (.iload_n 3, 1) := by decide +kernel
theorem dX7_isClash_1 : decode cX7_isClash 1 = .ok (.aload_n 0, 1) := by decide +kernel
theorem dX7_isClash_2 : decode cX7_isClash 2 = .ok (.iload_n 1, 1) := by decide +kernel
theorem dX7_isClash_3 : decode cX7_isClash 3 = .ok (.iload_n 2, 1) := by decide +kernel
theorem dX7_isClash_4 : decode cX7_isClash 4 = .ok (.invokevirtual 172, 3) := by decide +kernel
theorem dX7_isClash_7 : decode cX7_isClash 7 = .ok (.iadd, 1) := by decide +kernel
theorem dX7_isClash_8 : decode cX7_isClash 8 = .ok (.istore 4, 2) := by decide +kernel
theorem dX7_isClash_10 : decode cX7_isClash 10 = .ok (.aload_n 0, 1) := by decide +kernel
theorem dX7_isClash_11 : decode cX7_isClash 11 = .ok (.iload_n 1, 1) := by decide +kernel
theorem dX7_isClash_12 : decode cX7_isClash 12 = .ok (.iconst 0, 1) := by decide +kernel
theorem dX7_isClash_13 : decode cX7_isClash 13 = .ok (.invokevirtual 172, 3) := by decide +kernel
theorem dX7_isClash_16 : decode cX7_isClash 16 = .ok (.aload_n 0, 1) := by decide +kernel
theorem dX7_isClash_17 : decode cX7_isClash 17 = .ok (.iload_n 1, 1) := by decide +kernel
theorem dX7_isClash_18 : decode cX7_isClash 18 = .ok (.iconst 1, 1) := by decide +kernel
theorem dX7_isClash_19 : decode cX7_isClash 19 = .ok (.invokevirtual 172, 3) := by decide +kernel
theorem dX7_isClash_22 : decode cX7_isClash 22 = .ok (.if_icmp .ne 7, 3) := by decide +kernel
theorem dX7_isClash_25 : decode cX7_isClash 25 = .ok (.iconst 1, 1) := by decide +kernel
theorem dX7_isClash_26 : decode cX7_isClash 26 = .ok (.goto 4, 3) := by decide +kernel
theorem dX7_isClash_29 : decode cX7_isClash 29 = .ok (.iconst 0, 1) := by decide +kernel
theorem dX7_isClash_30 : decode cX7_isClash 30 = .ok (.istore 5, 2) := by decide +kernel
theorem dX7_isClash_32 : decode cX7_isClash 32 = .ok (.iload 5, 2) := by decide +kernel
theorem dX7_isClash_34 : decode cX7_isClash 34 = .ok (.ifCond .ne 25, 3) := by decide +kernel
theorem dX7_isClash_37 : decode cX7_isClash 37 = .ok (.aload_n 0, 1) := by decide +kernel
theorem dX7_isClash_38 : decode cX7_isClash 38 = .ok (.aload_n 0, 1) := by decide +kernel
theorem dX7_isClash_39 : decode cX7_isClash 39 = .ok (.iload_n 1, 1) := by decide +kernel
theorem dX7_isClash_40 : decode cX7_isClash 40 = .ok (.iconst 0, 1) := by decide +kernel
theorem dX7_isClash_41 : decode cX7_isClash 41 = .ok (.invokevirtual 33, 3) := by decide +kernel
theorem dX7_isClash_44 : decode cX7_isClash 44 = .ok (.aload_n 0, 1) := by decide +kernel
theorem dX7_isClash_45 : decode cX7_isClash 45 = .ok (.getfield 7, 3) := by decide +kernel
theorem dX7_isClash_48 : decode cX7_isClash 48 = .ok (.iconst 3, 1) := by decide +kernel
theorem dX7_isClash_49 : decode cX7_isClash 49 = .ok (.iaload, 1) := by decide +kernel
theorem dX7_isClash_50 : decode cX7_isClash 50 = .ok (.iload 4, 2) := by decide +kernel
theorem dX7_isClash_52 : decode cX7_isClash 52 = .ok (.iadd, 1) := by decide +kernel
theorem dX7_isClash_53 : decode cX7_isClash 53 = .ok (.invokevirtual 77, 3) := by decide +kernel
theorem dX7_isClash_56 : decode cX7_isClash 56 = .ok (.ifCond .le 7, 3) := by decide +kernel
theorem dX7_isClash_59 : decode cX7_isClash 59 = .ok (.iconst 1, 1) := by decide +kernel
theorem dX7_isClash_60 : decode cX7_isClash 60 = .ok (.goto 4, 3) := by decide +kernel
theorem dX7_isClash_63 : decode cX7_isClash 63 = .ok (.iconst 0, 1) := by decide +kernel
theorem dX7_isClash_64 : decode cX7_isClash 64 = .ok (.ireturn, 1) := by decide +kernel
theorem dX7_wouldClash_0 : decode cX7_wouldClash 0 = .ok (.aload_n 0, 1) := by decide +kernel
theorem dX7_wouldClash_1 : decode cX7_wouldClash 1 = .ok (.iconst 0, 1) := by decide +kernel
theorem dX7_wouldClash_2 : decode cX7_wouldClash 2 = .ok (.putfield 25, 3) := by decide +kernel
theorem dX7_wouldClash_5 : decode cX7_wouldClash 5 = .ok (.iload_n 1, 1) := by decide +kernel
theorem dX7_wouldClash_6 : decode cX7_wouldClash 6 = .ok (.invokestatic 91, 3) := by decide +kernel
theorem dX7_wouldClash_9 : decode cX7_wouldClash 9 = .ok (.ifCond .ne 9, 3) := by decide +kernel
theorem dX7_wouldClash_12 : decode cX7_wouldClash 12 = .ok (.aload_n 0, 1) := by decide +kernel
theorem dX7_wouldClash_13 : decode cX7_wouldClash 13 = .ok (.iconst 1, 1) := by decide +kernel
theorem dX7_wouldClash_14 : decode cX7_wouldClash 14 = .ok (.invokevirtual 40, 3) := by decide +kernel
theorem dX7_wouldClash_17 : decode cX7_wouldClash 17 = .ok (.ireturn, 1) := by decide +kernel
theorem dX7_wouldClash_18 : decode cX7_wouldClash 18 = .ok (.iload_n 2, 1) := by decide +kernel
theorem dX7_wouldClash_19 : decode cX7_wouldClash 19 = .ok (.iconst 0, 1) := by decide +kernel
theorem dX7_wouldClash_20 : decode cX7_wouldClash 20 = .ok (.iconst 1, 1) := by decide +kernel
theorem dX7_wouldClash_21 : decode cX7_wouldClash 21 = .ok (.invokestatic 29, 3) := by decide +kernel
theorem dX7_wouldClash_24 : decode cX7_wouldClash 24 = .ok (.ifCond .ne 9, 3) := by decide +kernel
theorem dX7_wouldClash_27 : decode cX7_wouldClash 27 = .ok (.aload_n 0, 1) := by decide +kernel
theorem dX7_wouldClash_28 : decode cX7_wouldClash 28 = .ok (.iconst 2, 1) := by decide +kernel
theorem dX7_wouldClash_29 : decode cX7_wouldClash 29 = .ok (.invokevirtual 40, 3) := by decide +kernel
theorem dX7_wouldClash_32 : decode cX7_wouldClash 32 = .ok (.ireturn, 1) := by decide +kernel
theorem dX7_wouldClash_33 : decode cX7_wouldClash 33 = .ok (.aload_n 0, 1) := by decide +kernel
theorem dX7_wouldClash_34 : decode cX7_wouldClash 34 = .ok (.iload_n 1, 1) := by decide +kernel
theorem dX7_wouldClash_35 : decode cX7_wouldClash 35 = .ok (.iload_n 2, 1) := by decide +kernel
theorem dX7_wouldClash_36 : decode cX7_wouldClash 36 = .ok (.iconst 0, 1) := by decide +kernel
theorem dX7_wouldClash_37 : decode cX7_wouldClash 37 = .ok (.invokevirtual 175, 3) := by decide +kernel
theorem dX7_wouldClash_40 : decode cX7_wouldClash 40 = .ok (.ifCond .eq 7, 3) := by decide +kernel
theorem dX7_wouldClash_43 : decode cX7_wouldClash 43 = .ok (.iconst 1, 1) := by decide +kernel
theorem dX7_wouldClash_44 : decode cX7_wouldClash 44 = .ok (.goto 4, 3) := by decide +kernel
theorem dX7_wouldClash_47 : decode cX7_wouldClash 47 = .ok (.iconst 0, 1) := by decide +kernel
theorem dX7_wouldClash_48 : decode cX7_wouldClash 48 = .ok (.ireturn, 1) := by decide +kernel
theorem dX7_meetsBall_0 : decode cX7_meetsBall 0 = .ok (.iload_n 3, 1) := by decide +kernel
theorem dX7_meetsBall_1 : decode cX7_meetsBall 1 = .ok (.aload_n 0, 1) := by decide +kernel
theorem dX7_meetsBall_2 : decode cX7_meetsBall 2 = .ok (.iload_n 1, 1) := by decide +kernel
theorem dX7_meetsBall_3 : decode cX7_meetsBall 3 = .ok (.iload_n 2, 1) := by decide +kernel
theorem dX7_meetsBall_4 : decode cX7_meetsBall 4 = .ok (.invokevirtual 172, 3) := by decide +kernel
theorem dX7_meetsBall_7 : decode cX7_meetsBall 7 = .ok (.iadd, 1) := by decide +kernel
theorem dX7_meetsBall_8 : decode cX7_meetsBall 8 = .ok (.istore 4, 2) := by decide +kernel
theorem dX7_meetsBall_10 : decode cX7_meetsBall 10 = .ok (.aload_n 0, 1) := by decide +kernel
theorem dX7_meetsBall_11 : decode cX7_meetsBall 11 = .ok (.iload_n 1, 1) := by decide +kernel
theorem dX7_meetsBall_12 : decode cX7_meetsBall 12 = .ok (.iload_n 2, 1) := by decide +kernel
theorem dX7_meetsBall_13 : decode cX7_meetsBall 13 = .ok (.iload_n 3, 1) := by decide +kernel
theorem dX7_meetsBall_14 : decode cX7_meetsBall 14 = .ok (.invokevirtual 175, 3) := by decide +kernel
theorem dX7_meetsBall_17 : decode cX7_meetsBall 17 = .ok (.ifCond .ne 29, 3) := by decide +kernel
theorem dX7_meetsBall_20 : decode cX7_meetsBall 20 = .ok (.aload_n 0, 1) := by decide +kernel
theorem dX7_meetsBall_21 : decode cX7_meetsBall 21 = .ok (.iload 4, 2) := by decide +kernel
theorem dX7_meetsBall_23 : decode cX7_meetsBall 23 = .ok (.aload_n 0, 1) := by decide +kernel
theorem dX7_meetsBall_24 : decode cX7_meetsBall 24 = .ok (.getfield 7, 3) := by decide +kernel
theorem dX7_meetsBall_27 : decode cX7_meetsBall 27 = .ok (.iconst 5, 1) := by decide +kernel
theorem dX7_meetsBall_28 : decode cX7_meetsBall 28 = .ok (.iaload, 1) := by decide +kernel
theorem dX7_meetsBall_29 : decode cX7_meetsBall 29 = .ok (.imul, 1) := by decide +kernel
theorem dX7_meetsBall_30 : decode cX7_meetsBall 30 = .ok (.invokevirtual 166, 3) := by decide +kernel
theorem dX7_meetsBall_33 : decode cX7_meetsBall 33 = .ok (.aload_n 0, 1) := by decide +kernel
theorem dX7_meetsBall_34 : decode cX7_meetsBall 34 = .ok (.iload_n 1, 1) := by decide +kernel
theorem dX7_meetsBall_35 : decode cX7_meetsBall 35 = .ok (.iconst 0, 1) := by decide +kernel
theorem dX7_meetsBall_36 : decode cX7_meetsBall 36 = .ok (.invokevirtual 33, 3) := by decide +kernel
theorem dX7_meetsBall_39 : decode cX7_meetsBall 39 = .ok (.if_icmp .ne 7, 3) := by decide +kernel
theorem dX7_meetsBall_42 : decode cX7_meetsBall 42 = .ok (.iconst 1, 1) := by decide +kernel
theorem dX7_meetsBall_43 : decode cX7_meetsBall 43 = .ok (.goto 4, 3) := by decide +kernel
theorem dX7_meetsBall_46 : decode cX7_meetsBall 46 = .ok (.iconst 0, 1) := by decide +kernel
theorem dX7_meetsBall_47 : decode cX7_meetsBall 47 = .ok (.ireturn, 1) := by decide +kernel
theorem dX7_bestWait_0 : decode cX7_bestWait 0 = .ok (.iconst 0, 1) := by decide +kernel
theorem dX7_bestWait_1 : decode cX7_bestWait 1 = .ok (.istore_n 2, 1) := by decide +kernel
theorem dX7_bestWait_2 : decode cX7_bestWait 2 = .ok (.iload_n 2, 1) := by decide +kernel
theorem dX7_bestWait_3 : decode cX7_bestWait 3 = .ok (.bipush 60, 2) := by decide +kernel
theorem dX7_bestWait_5 : decode cX7_bestWait 5 = .ok (.if_icmp .gt 31, 3) := by decide +kernel
theorem dX7_bestWait_8 : decode cX7_bestWait 8 = .ok (.aload_n 0, 1) := by decide +kernel
theorem dX7_bestWait_9 : decode cX7_bestWait 9 = .ok (.iload_n 1, 1) := by decide +kernel
theorem dX7_bestWait_10 : decode cX7_bestWait 10 = .ok (.iconst 0, 1) := by decide +kernel
theorem dX7_bestWait_11 : decode cX7_bestWait 11 = .ok (.iload_n 2, 1) := by decide +kernel
theorem dX7_bestWait_12 : decode cX7_bestWait 12 = .ok (.invokevirtual 178, 3) := by decide +kernel
theorem dX7_bestWait_15 : decode cX7_bestWait 15 = .ok (.ifCond .ne 13, 3) := by decide +kernel
theorem dX7_bestWait_18 : decode cX7_bestWait 18 = .ok (.aload_n 0, 1) := by decide +kernel
theorem dX7_bestWait_19 : decode cX7_bestWait 19 = .ok (.iload_n 1, 1) := by decide +kernel
theorem dX7_bestWait_20 : decode cX7_bestWait 20 = .ok (.iconst 1, 1) := by decide +kernel
theorem dX7_bestWait_21 : decode cX7_bestWait 21 = .ok (.iload_n 2, 1) := by decide +kernel
theorem dX7_bestWait_22 : decode cX7_bestWait 22 = .ok (.invokevirtual 178, 3) := by decide +kernel
theorem dX7_bestWait_25 : decode cX7_bestWait 25 = .ok (.ifCond .eq 5, 3) := by decide +kernel
theorem dX7_bestWait_28 : decode cX7_bestWait 28 = .ok (.iload_n 2, 1) := by decide +kernel
theorem dX7_bestWait_29 : decode cX7_bestWait 29 = .ok (.ireturn, 1) := by decide +kernel
theorem dX7_bestWait_30 : decode cX7_bestWait 30 = .ok (.iinc 2 1, 3) := by decide +kernel
theorem dX7_bestWait_33 : decode cX7_bestWait 33 = .ok (.goto (-31), 3) := by decide +kernel
theorem dX7_bestWait_36 : decode cX7_bestWait 36 = .ok (.iconst (-1), 1) := by decide +kernel
theorem dX7_bestWait_37 : decode cX7_bestWait 37 = .ok (.ireturn, 1) := by decide +kernel
theorem dX7_callIn_0 : decode cX7_callIn 0 = .ok (.aload_n 0, 1) := by decide +kernel
theorem dX7_callIn_1 : decode cX7_callIn 1 = .ok (.iconst 0, 1) := by decide +kernel
theorem dX7_callIn_2 : decode cX7_callIn 2 = .ok (.putfield 25, 3) := by decide +kernel
theorem dX7_callIn_5 : decode cX7_callIn 5 = .ok (.iload_n 1, 1) := by decide +kernel
theorem dX7_callIn_6 : decode cX7_callIn 6 = .ok (.invokestatic 91, 3) := by decide +kernel
theorem dX7_callIn_9 : decode cX7_callIn 9 = .ok (.ifCond .eq 11, 3) := by decide +kernel
theorem dX7_callIn_12 : decode cX7_callIn 12 = .ok (.aload_n 0, 1) := by decide +kernel
theorem dX7_callIn_13 : decode cX7_callIn 13 = .ok (.iload_n 1, 1) := by decide +kernel
theorem dX7_callIn_14 : decode cX7_callIn 14 = .ok (.invokevirtual 181, 3) := by decide +kernel
theorem dX7_callIn_17 : decode cX7_callIn 17 = .ok (.goto 8, 3) := by decide +kernel
theorem dX7_callIn_20 : decode cX7_callIn 20 = .ok (.aload_n 0, 1) := by decide +kernel
theorem dX7_callIn_21 : decode cX7_callIn 21 = .ok (.iconst 1, 1) := by decide +kernel
theorem dX7_callIn_22 : decode cX7_callIn 22 = .ok (.invokevirtual 40, 3) := by decide +kernel
theorem dX7_callIn_25 : decode cX7_callIn 25 = .ok (.ireturn, 1) := by decide +kernel
theorem dX7_tellsQuiet_0 : decode cX7_tellsQuiet 0 = .ok (.aload_n 0, 1) := by decide +kernel
theorem dX7_tellsQuiet_1 : decode cX7_tellsQuiet 1 = .ok (.getfield 7, 3) := by decide +kernel
theorem dX7_tellsQuiet_4 : decode cX7_tellsQuiet 4 = .ok (.iconst 3, 1) := by decide +kernel
theorem dX7_tellsQuiet_5 : decode cX7_tellsQuiet 5 = .ok (.iaload, 1) := by decide +kernel
theorem dX7_tellsQuiet_6 : decode cX7_tellsQuiet 6 = .ok (.istore_n 1, 1) := by decide +kernel
theorem dX7_tellsQuiet_7 : decode cX7_tellsQuiet 7 = .ok (.iconst 0, 1) := by decide +kernel
theorem dX7_tellsQuiet_8 : decode cX7_tellsQuiet 8 = .ok (.istore_n 2, 1) := by decide +kernel
theorem dX7_tellsQuiet_9 : decode cX7_tellsQuiet 9 = .ok (.iload_n 2, 1) := by decide +kernel
theorem dX7_tellsQuiet_10 : decode cX7_tellsQuiet 10 = .ok (.aload_n 0, 1) := by decide +kernel
theorem dX7_tellsQuiet_11 : decode cX7_tellsQuiet 11 = .ok (.getfield 7, 3) := by decide +kernel
theorem dX7_tellsQuiet_14 : decode cX7_tellsQuiet 14 = .ok (.bipush 9, 2) := by decide +kernel
theorem dX7_tellsQuiet_16 : decode cX7_tellsQuiet 16 = .ok (.iaload, 1) := by decide +kernel
theorem dX7_tellsQuiet_17 : decode cX7_tellsQuiet 17 = .ok (.if_icmp .ge 30, 3) := by decide +kernel
theorem dX7_tellsQuiet_20 : decode cX7_tellsQuiet 20 = .ok (.aload_n 0, 1) := by decide +kernel
theorem dX7_tellsQuiet_21 : decode cX7_tellsQuiet 21 = .ok (.iload_n 2, 1) := by decide +kernel
theorem dX7_tellsQuiet_22 : decode cX7_tellsQuiet 22 = .ok (.iconst 3, 1) := by decide +kernel
theorem dX7_tellsQuiet_23 : decode cX7_tellsQuiet 23 = .ok (.invokevirtual 54, 3) := by decide +kernel
theorem dX7_tellsQuiet_26 : decode cX7_tellsQuiet 26 = .ok (.iload_n 1, 1) := by decide +kernel
theorem dX7_tellsQuiet_27 : decode cX7_tellsQuiet 27 = .ok (.if_icmp .le 12, 3) := by decide +kernel
theorem dX7_tellsQuiet_30 : decode cX7_tellsQuiet 30 = .ok (.aload_n 0, 1) := by decide +kernel
theorem dX7_tellsQuiet_31 : decode cX7_tellsQuiet 31 = .ok (.iload_n 2, 1) := by decide +kernel
theorem dX7_tellsQuiet_32 : decode cX7_tellsQuiet 32 = .ok (.iconst 3, 1) := by decide +kernel
theorem dX7_tellsQuiet_33 : decode cX7_tellsQuiet 33 = .ok (.invokevirtual 54, 3) := by decide +kernel
theorem dX7_tellsQuiet_36 : decode cX7_tellsQuiet 36 = .ok (.goto 4, 3) := by decide +kernel
theorem dX7_tellsQuiet_39 : decode cX7_tellsQuiet 39 = .ok (.iload_n 1, 1) := by decide +kernel
theorem dX7_tellsQuiet_40 : decode cX7_tellsQuiet 40 = .ok (.istore_n 1, 1) := by decide +kernel
theorem dX7_tellsQuiet_41 : decode cX7_tellsQuiet 41 = .ok (.iinc 2 1, 3) := by decide +kernel
theorem dX7_tellsQuiet_44 : decode cX7_tellsQuiet 44 = .ok (.goto (-35), 3) := by decide +kernel
theorem dX7_tellsQuiet_47 : decode cX7_tellsQuiet 47 = .ok (.iload_n 1, 1) := by decide +kernel
theorem dX7_tellsQuiet_48 : decode cX7_tellsQuiet 48 = .ok (.aload_n 0, 1) := by decide +kernel
theorem dX7_tellsQuiet_49 : decode cX7_tellsQuiet 49 = .ok (.getfield 7, 3) := by decide +kernel
theorem dX7_tellsQuiet_52 : decode cX7_tellsQuiet 52 = .ok (.iconst 3, 1) := by decide +kernel
theorem dX7_tellsQuiet_53 : decode cX7_tellsQuiet 53 = .ok (.iaload, 1) := by decide +kernel
theorem dX7_tellsQuiet_54 : decode cX7_tellsQuiet 54 = .ok (.isub, 1) := by decide +kernel
theorem dX7_tellsQuiet_55 : decode cX7_tellsQuiet 55 = .ok (.ireturn, 1) := by decide +kernel
theorem dX7_quietIn_0 : decode cX7_quietIn 0 = .ok (.aload_n 0, 1) := by decide +kernel
theorem dX7_quietIn_1 : decode cX7_quietIn 1 = .ok (.iconst 0, 1) := by decide +kernel
theorem dX7_quietIn_2 : decode cX7_quietIn 2 = .ok (.putfield 25, 3) := by decide +kernel
theorem dX7_quietIn_5 : decode cX7_quietIn 5 = .ok (.aload_n 0, 1) := by decide +kernel
theorem dX7_quietIn_6 : decode cX7_quietIn 6 = .ok (.invokevirtual 184, 3) := by decide +kernel
theorem dX7_quietIn_9 : decode cX7_quietIn 9 = .ok (.ireturn, 1) := by decide +kernel
theorem dX7_tellsBest_0 : decode cX7_tellsBest 0 = .ok (.iconst 0, 1) := by decide +kernel
theorem dX7_tellsBest_1 : decode cX7_tellsBest 1 = .ok (.istore_n 1, 1) := by decide +kernel
theorem dX7_tellsBest_2 : decode cX7_tellsBest 2 = .ok (.iconst 1, 1) := by decide +kernel
theorem dX7_tellsBest_3 : decode cX7_tellsBest 3 = .ok (.istore_n 2, 1) := by decide +kernel
theorem dX7_tellsBest_4 : decode cX7_tellsBest 4 = .ok (.iload_n 2, 1) := by decide +kernel
theorem dX7_tellsBest_5 : decode cX7_tellsBest 5 = .ok (.iconst 4, 1) := by decide +kernel
theorem dX7_tellsBest_6 : decode cX7_tellsBest 6 = .ok (.if_icmp .ge 64, 3) := by decide +kernel
theorem dX7_tellsBest_9 : decode cX7_tellsBest 9 = .ok (.aload_n 0, 1) := by decide +kernel
theorem dX7_tellsBest_10 : decode cX7_tellsBest 10 = .ok (.iload_n 2, 1) := by decide +kernel
theorem dX7_tellsBest_11 : decode cX7_tellsBest 11 = .ok (.iconst 1, 1) := by decide +kernel
theorem dX7_tellsBest_12 : decode cX7_tellsBest 12 = .ok (.invokevirtual 33, 3) := by decide +kernel
theorem dX7_tellsBest_15 : decode cX7_tellsBest 15 = .ok (.aload_n 0, 1) := by decide +kernel
theorem dX7_tellsBest_16 : decode cX7_tellsBest 16 = .ok (.iload_n 1, 1) := by decide +kernel
theorem dX7_tellsBest_17 : decode cX7_tellsBest 17 = .ok (.iconst 1, 1) := by decide +kernel
theorem dX7_tellsBest_18 : decode cX7_tellsBest 18 = .ok (.invokevirtual 33, 3) := by decide +kernel
theorem dX7_tellsBest_21 : decode cX7_tellsBest 21 = .ok (.isub, 1) := by decide +kernel
theorem dX7_tellsBest_22 : decode cX7_tellsBest 22 = .ok (.istore_n 3, 1) := by decide +kernel
theorem dX7_tellsBest_23 : decode cX7_tellsBest 23 = .ok (.iload_n 3, 1) := by decide +kernel
theorem dX7_tellsBest_24 : decode cX7_tellsBest 24 = .ok (.ifCond .gt 22, 3) := by decide +kernel
theorem dX7_tellsBest_27 : decode cX7_tellsBest 27 = .ok (.iload_n 3, 1) := by decide +kernel
theorem dX7_tellsBest_28 : decode cX7_tellsBest 28 = .ok (.ifCond .ne 22, 3) := by decide +kernel
theorem dX7_tellsBest_31 : decode cX7_tellsBest 31 = .ok (.aload_n 0, 1) := by decide +kernel
theorem dX7_tellsBest_32 : decode cX7_tellsBest 32 = .ok (.iload_n 2, 1) := by decide +kernel
theorem dX7_tellsBest_33 : decode cX7_tellsBest 33 = .ok (.iconst 3, 1) := by decide +kernel
theorem dX7_tellsBest_34 : decode cX7_tellsBest 34 = .ok (.invokevirtual 33, 3) := by decide +kernel
theorem dX7_tellsBest_37 : decode cX7_tellsBest 37 = .ok (.aload_n 0, 1) := by decide +kernel
theorem dX7_tellsBest_38 : decode cX7_tellsBest 38 = .ok (.iload_n 1, 1) := by decide +kernel
theorem dX7_tellsBest_39 : decode cX7_tellsBest 39 = .ok (.iconst 3, 1) := by decide +kernel
theorem dX7_tellsBest_40 : decode cX7_tellsBest 40 = .ok (.invokevirtual 33, 3) := by decide +kernel
theorem dX7_tellsBest_43 : decode cX7_tellsBest 43 = .ok (.if_icmp .le 7, 3) := by decide +kernel
theorem dX7_tellsBest_46 : decode cX7_tellsBest 46 = .ok (.iconst 1, 1) := by decide +kernel
theorem dX7_tellsBest_47 : decode cX7_tellsBest 47 = .ok (.goto 4, 3) := by decide +kernel
theorem dX7_tellsBest_50 : decode cX7_tellsBest 50 = .ok (.iconst 0, 1) := by decide +kernel
theorem dX7_tellsBest_51 : decode cX7_tellsBest 51 = .ok (.istore 4, 2) := by decide +kernel
theorem dX7_tellsBest_53 : decode cX7_tellsBest 53 = .ok (.iload 4, 2) := by decide +kernel
theorem dX7_tellsBest_55 : decode cX7_tellsBest 55 = .ok (.ifCond .eq 7, 3) := by decide +kernel
theorem dX7_tellsBest_58 : decode cX7_tellsBest 58 = .ok (.iload_n 2, 1) := by decide +kernel
theorem dX7_tellsBest_59 : decode cX7_tellsBest 59 = .ok (.goto 4, 3) := by decide +kernel
theorem dX7_tellsBest_62 : decode cX7_tellsBest 62 = .ok (.iload_n 1, 1) := by decide +kernel
theorem dX7_tellsBest_63 : decode cX7_tellsBest 63 = .ok (.istore_n 1, 1) := by decide +kernel
theorem dX7_tellsBest_64 : decode cX7_tellsBest 64 = .ok (.iinc 2 1, 3) := by decide +kernel
theorem dX7_tellsBest_67 : decode cX7_tellsBest 67 = .ok (.goto (-63), 3) := by decide +kernel
theorem dX7_tellsBest_70 : decode cX7_tellsBest 70 = .ok (.iload_n 1, 1) := by decide +kernel
theorem dX7_tellsBest_71 : decode cX7_tellsBest 71 = .ok (.ireturn, 1) := by decide +kernel
theorem dX7_best_0 : decode cX7_best 0 = .ok (.aload_n 0, 1) := by decide +kernel
theorem dX7_best_1 : decode cX7_best 1 = .ok (.iconst 0, 1) := by decide +kernel
theorem dX7_best_2 : decode cX7_best 2 = .ok (.putfield 25, 3) := by decide +kernel
theorem dX7_best_5 : decode cX7_best 5 = .ok (.aload_n 0, 1) := by decide +kernel
theorem dX7_best_6 : decode cX7_best 6 = .ok (.invokevirtual 187, 3) := by decide +kernel
theorem dX7_best_9 : decode cX7_best 9 = .ok (.ireturn, 1) := by decide +kernel
theorem dX7_share_0 : decode cX7_share 0 = .ok (.aload_n 0, 1) := by decide +kernel
theorem dX7_share_1 : decode cX7_share 1 = .ok (.iconst 3, 1) := by decide +kernel
theorem dX7_share_2 : decode cX7_share 2 = .ok (.invokevirtual 160, 3) := by decide +kernel
theorem dX7_share_5 : decode cX7_share 5 = .ok (.aload_n 0, 1) := by decide +kernel
theorem dX7_share_6 : decode cX7_share 6 = .ok (.iconst 4, 1) := by decide +kernel
theorem dX7_share_7 : decode cX7_share 7 = .ok (.invokevirtual 160, 3) := by decide +kernel
theorem dX7_share_10 : decode cX7_share 10 = .ok (.iadd, 1) := by decide +kernel
theorem dX7_share_11 : decode cX7_share 11 = .ok (.aload_n 0, 1) := by decide +kernel
theorem dX7_share_12 : decode cX7_share 12 = .ok (.iconst 5, 1) := by decide +kernel
theorem dX7_share_13 : decode cX7_share 13 = .ok (.invokevirtual 160, 3) := by decide +kernel
theorem dX7_share_16 : decode cX7_share 16 = .ok (.iadd, 1) := by decide +kernel
theorem dX7_share_17 : decode cX7_share 17 = .ok (.istore_n 1, 1) := by decide +kernel
theorem dX7_share_18 : decode cX7_share 18 = .ok (.iload_n 1, 1) := by decide +kernel
theorem dX7_share_19 : decode cX7_share 19 = .ok (.ifCond .ne 7, 3) := by decide +kernel
theorem dX7_share_22 : decode cX7_share 22 = .ok (.dconst 1, 1) := by decide +kernel
theorem dX7_share_23 : decode cX7_share 23 = .ok (.goto 12, 3) := by decide +kernel
theorem dX7_share_26 : decode cX7_share 26 = .ok (.aload_n 0, 1) := by decide +kernel
theorem dX7_share_27 : decode cX7_share 27 = .ok (.iconst 3, 1) := by decide +kernel
theorem dX7_share_28 : decode cX7_share 28 = .ok (.invokevirtual 160, 3) := by decide +kernel
theorem dX7_share_31 : decode cX7_share 31 = .ok (.i2d, 1) := by decide +kernel
theorem dX7_share_32 : decode cX7_share 32 = .ok (.iload_n 1, 1) := by decide +kernel
theorem dX7_share_33 : decode cX7_share 33 = .ok (.i2d, 1) := by decide +kernel
theorem dX7_share_34 : decode cX7_share 34 = .ok (.ddiv, 1) := by decide +kernel
theorem dX7_share_35 : decode cX7_share 35 = .ok (.dreturn, 1) := by decide +kernel
theorem dX7_answeredShare_0 : decode cX7_answeredShare 0 = .ok (.aload_n 0, 1) := by decide +kernel
theorem dX7_answeredShare_1 : decode cX7_answeredShare 1 = .ok (.iconst 0, 1) := by decide +kernel
theorem dX7_answeredShare_2 : decode cX7_answeredShare 2 = .ok (.putfield 25, 3) := by decide +kernel
theorem dX7_answeredShare_5 : decode cX7_answeredShare 5 = .ok (.aload_n 0, 1) := by decide +kernel
theorem dX7_answeredShare_6 : decode cX7_answeredShare 6 = .ok (.invokevirtual 190, 3) := by decide +kernel
theorem dX7_answeredShare_9 : decode cX7_answeredShare 9 = .ok (.dreturn, 1) := by decide +kernel
theorem dX7_mix_0 : decode cX7_mix 0 = .ok (.aload_n 0, 1) := by decide +kernel
theorem dX7_mix_1 : decode cX7_mix 1 = .ok (.ldc2_w 194, 3) := by decide +kernel
theorem dX7_mix_4 : decode cX7_mix 4 = .ok (.aload_n 0, 1) := by decide +kernel
theorem dX7_mix_5 : decode cX7_mix 5 = .ok (.getfield 196, 3) := by decide +kernel
theorem dX7_mix_8 : decode cX7_mix 8 = .ok (.lmul, 1) := by decide +kernel
theorem dX7_mix_9 : decode cX7_mix 9 = .ok (.lload_n 1, 1) := by decide +kernel
theorem dX7_mix_10 : decode cX7_mix 10 = .ok (.ladd, 1) := by decide +kernel
theorem dX7_mix_11 : decode cX7_mix 11 = .ok (.putfield 196, 3) := by decide +kernel
theorem dX7_mix_14 : decode cX7_mix 14 = .ok (.return_, 1) := by decide +kernel
theorem dX7_mixPlayer_0 : decode cX7_mixPlayer 0 = .ok (.iconst 0, 1) := by decide +kernel
theorem dX7_mixPlayer_1 : decode cX7_mixPlayer 1 = .ok (.istore_n 2, 1) := by decide +kernel
theorem dX7_mixPlayer_2 : decode cX7_mixPlayer 2 = .ok (.iload_n 2, 1) := by decide +kernel
theorem dX7_mixPlayer_3 : decode cX7_mixPlayer 3 = .ok (.bipush 7, 2) := by decide +kernel
theorem dX7_mixPlayer_5 : decode cX7_mixPlayer 5 = .ok (.if_icmp .ge 20, 3) := by decide +kernel
theorem dX7_mixPlayer_8 : decode cX7_mixPlayer 8 = .ok (.aload_n 0, 1) := by decide +kernel
theorem dX7_mixPlayer_9 : decode cX7_mixPlayer 9 = .ok (.aload_n 0, 1) := by decide +kernel
theorem dX7_mixPlayer_10 : decode cX7_mixPlayer 10 = .ok (.iload_n 1, 1) := by decide +kernel
theorem dX7_mixPlayer_11 : decode cX7_mixPlayer 11 = .ok (.iload_n 2, 1) := by decide +kernel
theorem dX7_mixPlayer_12 : decode cX7_mixPlayer 12 = .ok (.invokevirtual 151, 3) := by decide +kernel
theorem dX7_mixPlayer_15 : decode cX7_mixPlayer 15 = .ok (.i2l, 1) := by decide +kernel
theorem dX7_mixPlayer_16 : decode cX7_mixPlayer 16 = .ok (.invokevirtual 200, 3) := by decide +kernel
theorem dX7_mixPlayer_19 : decode cX7_mixPlayer 19 = .ok (.iinc 2 1, 3) := by decide +kernel
theorem dX7_mixPlayer_22 : decode cX7_mixPlayer 22 = .ok (.goto (-20), 3) := by decide +kernel
theorem dX7_mixPlayer_25 : decode cX7_mixPlayer 25 = .ok (.iconst 0, 1) := by decide +kernel
theorem dX7_mixPlayer_26 : decode cX7_mixPlayer 26 = .ok (.istore_n 2, 1) := by decide +kernel
theorem dX7_mixPlayer_27 : decode cX7_mixPlayer 27 = .ok (.iload_n 2, 1) := by decide +kernel
theorem dX7_mixPlayer_28 : decode cX7_mixPlayer 28 = .ok (.iconst 2, 1) := by decide +kernel
theorem dX7_mixPlayer_29 : decode cX7_mixPlayer 29 = .ok (.if_icmp .ge 39, 3) := by decide +kernel
theorem dX7_mixPlayer_32 : decode cX7_mixPlayer 32 = .ok (.aload_n 0, 1) := by decide +kernel
theorem dX7_mixPlayer_33 : decode cX7_mixPlayer 33 = .ok (.aload_n 0, 1) := by decide +kernel
theorem dX7_mixPlayer_34 : decode cX7_mixPlayer 34 = .ok (.iload_n 1, 1) := by decide +kernel
theorem dX7_mixPlayer_35 : decode cX7_mixPlayer 35 = .ok (.iload_n 2, 1) := by decide +kernel
theorem dX7_mixPlayer_36 : decode cX7_mixPlayer 36 = .ok (.invokevirtual 172, 3) := by decide +kernel
theorem dX7_mixPlayer_39 : decode cX7_mixPlayer 39 = .ok (.i2l, 1) := by decide +kernel
theorem dX7_mixPlayer_40 : decode cX7_mixPlayer 40 = .ok (.invokevirtual 200, 3) := by decide +kernel
theorem dX7_mixPlayer_43 : decode cX7_mixPlayer 43 = .ok (.aload_n 0, 1) := by decide +kernel
theorem dX7_mixPlayer_44 : decode cX7_mixPlayer 44 = .ok (.aload_n 0, 1) := by decide +kernel
theorem dX7_mixPlayer_45 : decode cX7_mixPlayer 45 = .ok (.iload_n 1, 1) := by decide +kernel
theorem dX7_mixPlayer_46 : decode cX7_mixPlayer 46 = .ok (.iload_n 2, 1) := by decide +kernel
theorem dX7_mixPlayer_47 : decode cX7_mixPlayer 47 = .ok (.iconst 0, 1) := by decide +kernel
theorem dX7_mixPlayer_48 : decode cX7_mixPlayer 48 = .ok (.invokevirtual 175, 3) := by decide +kernel
theorem dX7_mixPlayer_51 : decode cX7_mixPlayer 51 = .ok (.ifCond .eq 7, 3) := by decide +kernel
theorem dX7_mixPlayer_54 : decode cX7_mixPlayer 54 = .ok (.lconst 1, 1) := by decide +kernel
theorem dX7_mixPlayer_55 : decode cX7_mixPlayer 55 = .ok (.goto 4, 3) := by decide +kernel
theorem dX7_mixPlayer_58 : decode cX7_mixPlayer 58 = .ok (.lconst 0, 1) := by decide +kernel
theorem dX7_mixPlayer_59 : decode cX7_mixPlayer 59 = .ok (.invokevirtual 200, 3) := by decide +kernel
theorem dX7_mixPlayer_62 : decode cX7_mixPlayer 62 = .ok (.iinc 2 1, 3) := by decide +kernel
theorem dX7_mixPlayer_65 : decode cX7_mixPlayer 65 = .ok (.goto (-38), 3) := by decide +kernel
theorem dX7_mixPlayer_68 : decode cX7_mixPlayer 68 = .ok (.aload_n 0, 1) := by decide +kernel
theorem dX7_mixPlayer_69 : decode cX7_mixPlayer 69 = .ok (.aload_n 0, 1) := by decide +kernel
theorem dX7_mixPlayer_70 : decode cX7_mixPlayer 70 = .ok (.iload_n 1, 1) := by decide +kernel
theorem dX7_mixPlayer_71 : decode cX7_mixPlayer 71 = .ok (.invokevirtual 181, 3) := by decide +kernel
theorem dX7_mixPlayer_74 : decode cX7_mixPlayer 74 = .ok (.i2l, 1) := by decide +kernel
theorem dX7_mixPlayer_75 : decode cX7_mixPlayer 75 = .ok (.invokevirtual 200, 3) := by decide +kernel
theorem dX7_mixPlayer_78 : decode cX7_mixPlayer 78 = .ok (.return_, 1) := by decide +kernel
theorem dX7_digest_0 : decode cX7_digest 0 = .ok (.aload_n 0, 1) := by decide +kernel
theorem dX7_digest_1 : decode cX7_digest 1 = .ok (.iconst 0, 1) := by decide +kernel
theorem dX7_digest_2 : decode cX7_digest 2 = .ok (.putfield 25, 3) := by decide +kernel
theorem dX7_digest_5 : decode cX7_digest 5 = .ok (.aload_n 0, 1) := by decide +kernel
theorem dX7_digest_6 : decode cX7_digest 6 = .ok (.ldc2_w 204, 3) := by decide +kernel
theorem dX7_digest_9 : decode cX7_digest 9 = .ok (.putfield 196, 3) := by decide +kernel
theorem dX7_digest_12 : decode cX7_digest 12 = .ok (.iconst 0, 1) := by decide +kernel
theorem dX7_digest_13 : decode cX7_digest 13 = .ok (.istore_n 1, 1) := by decide +kernel
theorem dX7_digest_14 : decode cX7_digest 14 = .ok (.iload_n 1, 1) := by decide +kernel
theorem dX7_digest_15 : decode cX7_digest 15 = .ok (.bipush 12, 2) := by decide +kernel
theorem dX7_digest_17 : decode cX7_digest 17 = .ok (.if_icmp .ge 19, 3) := by decide +kernel
theorem dX7_digest_20 : decode cX7_digest 20 = .ok (.aload_n 0, 1) := by decide +kernel
theorem dX7_digest_21 : decode cX7_digest 21 = .ok (.aload_n 0, 1) := by decide +kernel
theorem dX7_digest_22 : decode cX7_digest 22 = .ok (.iload_n 1, 1) := by decide +kernel
theorem dX7_digest_23 : decode cX7_digest 23 = .ok (.invokevirtual 163, 3) := by decide +kernel
theorem dX7_digest_26 : decode cX7_digest 26 = .ok (.i2l, 1) := by decide +kernel
theorem dX7_digest_27 : decode cX7_digest 27 = .ok (.invokevirtual 200, 3) := by decide +kernel
theorem dX7_digest_30 : decode cX7_digest 30 = .ok (.iinc 1 1, 3) := by decide +kernel
theorem dX7_digest_33 : decode cX7_digest 33 = .ok (.goto (-19), 3) := by decide +kernel
theorem dX7_digest_36 : decode cX7_digest 36 = .ok (.iconst 0, 1) := by decide +kernel
theorem dX7_digest_37 : decode cX7_digest 37 = .ok (.istore_n 1, 1) := by decide +kernel
theorem dX7_digest_38 : decode cX7_digest 38 = .ok (.iload_n 1, 1) := by decide +kernel
theorem dX7_digest_39 : decode cX7_digest 39 = .ok (.iconst 3, 1) := by decide +kernel
theorem dX7_digest_40 : decode cX7_digest 40 = .ok (.if_icmp .ge 20, 3) := by decide +kernel
theorem dX7_digest_43 : decode cX7_digest 43 = .ok (.aload_n 0, 1) := by decide +kernel
theorem dX7_digest_44 : decode cX7_digest 44 = .ok (.aload_n 0, 1) := by decide +kernel
theorem dX7_digest_45 : decode cX7_digest 45 = .ok (.getfield 7, 3) := by decide +kernel
theorem dX7_digest_48 : decode cX7_digest 48 = .ok (.iload_n 1, 1) := by decide +kernel
theorem dX7_digest_49 : decode cX7_digest 49 = .ok (.iaload, 1) := by decide +kernel
theorem dX7_digest_50 : decode cX7_digest 50 = .ok (.i2l, 1) := by decide +kernel
theorem dX7_digest_51 : decode cX7_digest 51 = .ok (.invokevirtual 200, 3) := by decide +kernel
theorem dX7_digest_54 : decode cX7_digest 54 = .ok (.iinc 1 1, 3) := by decide +kernel
theorem dX7_digest_57 : decode cX7_digest 57 = .ok (.goto (-19), 3) := by decide +kernel
theorem dX7_digest_60 : decode cX7_digest 60 = .ok (.iconst 0, 1) := by decide +kernel
theorem dX7_digest_61 : decode cX7_digest 61 = .ok (.istore_n 1, 1) := by decide +kernel
theorem dX7_digest_62 : decode cX7_digest 62 = .ok (.iload_n 1, 1) := by decide +kernel
theorem dX7_digest_63 : decode cX7_digest 63 = .ok (.iconst 4, 1) := by decide +kernel
theorem dX7_digest_64 : decode cX7_digest 64 = .ok (.if_icmp .ge 14, 3) := by decide +kernel
theorem dX7_digest_67 : decode cX7_digest 67 = .ok (.aload_n 0, 1) := by decide +kernel
theorem dX7_digest_68 : decode cX7_digest 68 = .ok (.iload_n 1, 1) := by decide +kernel
theorem dX7_digest_69 : decode cX7_digest 69 = .ok (.invokevirtual 206, 3) := by decide +kernel
theorem dX7_digest_72 : decode cX7_digest 72 = .ok (.iinc 1 1, 3) := by decide +kernel
theorem dX7_digest_75 : decode cX7_digest 75 = .ok (.goto (-13), 3) := by decide +kernel
theorem dX7_digest_78 : decode cX7_digest 78 = .ok (.iconst 0, 1) := by decide +kernel
theorem dX7_digest_79 : decode cX7_digest 79 = .ok (.istore_n 1, 1) := by decide +kernel
theorem dX7_digest_80 : decode cX7_digest 80 = .ok (.iload_n 1, 1) := by decide +kernel
theorem dX7_digest_81 : decode cX7_digest 81 = .ok (.aload_n 0, 1) := by decide +kernel
theorem dX7_digest_82 : decode cX7_digest 82 = .ok (.getfield 7, 3) := by decide +kernel
theorem dX7_digest_85 : decode cX7_digest 85 = .ok (.bipush 9, 2) := by decide +kernel
theorem dX7_digest_87 : decode cX7_digest 87 = .ok (.iaload, 1) := by decide +kernel
theorem dX7_digest_88 : decode cX7_digest 88 = .ok (.if_icmp .ge 34, 3) := by decide +kernel
theorem dX7_digest_91 : decode cX7_digest 91 = .ok (.iconst 0, 1) := by decide +kernel
theorem dX7_digest_92 : decode cX7_digest 92 = .ok (.istore_n 2, 1) := by decide +kernel
theorem dX7_digest_93 : decode cX7_digest 93 = .ok (.iload_n 2, 1) := by decide +kernel
theorem dX7_digest_94 : decode cX7_digest 94 = .ok (.bipush 6, 2) := by decide +kernel
theorem dX7_digest_96 : decode cX7_digest 96 = .ok (.if_icmp .ge 20, 3) := by decide +kernel
theorem dX7_digest_99 : decode cX7_digest 99 = .ok (.aload_n 0, 1) := by decide +kernel
theorem dX7_digest_100 : decode cX7_digest 100 = .ok (.aload_n 0, 1) := by decide +kernel
theorem dX7_digest_101 : decode cX7_digest 101 = .ok (.iload_n 1, 1) := by decide +kernel
theorem dX7_digest_102 : decode cX7_digest 102 = .ok (.iload_n 2, 1) := by decide +kernel
theorem dX7_digest_103 : decode cX7_digest 103 = .ok (.invokevirtual 157, 3) := by decide +kernel
theorem dX7_digest_106 : decode cX7_digest 106 = .ok (.i2l, 1) := by decide +kernel
theorem dX7_digest_107 : decode cX7_digest 107 = .ok (.invokevirtual 200, 3) := by decide +kernel
theorem dX7_digest_110 : decode cX7_digest 110 = .ok (.iinc 2 1, 3) := by decide +kernel
theorem dX7_digest_113 : decode cX7_digest 113 = .ok (.goto (-20), 3) := by decide +kernel
theorem dX7_digest_116 : decode cX7_digest 116 = .ok (.iinc 1 1, 3) := by decide +kernel
theorem dX7_digest_119 : decode cX7_digest 119 = .ok (.goto (-39), 3) := by decide +kernel
theorem dX7_digest_122 : decode cX7_digest 122 = .ok (.iconst 0, 1) := by decide +kernel
theorem dX7_digest_123 : decode cX7_digest 123 = .ok (.istore_n 1, 1) := by decide +kernel
theorem dX7_digest_124 : decode cX7_digest 124 = .ok (.iload_n 1, 1) := by decide +kernel
theorem dX7_digest_125 : decode cX7_digest 125 = .ok (.bipush 6, 2) := by decide +kernel
theorem dX7_digest_127 : decode cX7_digest 127 = .ok (.if_icmp .ge 33, 3) := by decide +kernel
theorem dX7_digest_130 : decode cX7_digest 130 = .ok (.aload_n 0, 1) := by decide +kernel
theorem dX7_digest_131 : decode cX7_digest 131 = .ok (.aload_n 0, 1) := by decide +kernel
theorem dX7_digest_132 : decode cX7_digest 132 = .ok (.iload_n 1, 1) := by decide +kernel
theorem dX7_digest_133 : decode cX7_digest 133 = .ok (.iconst 3, 1) := by decide +kernel
theorem dX7_digest_134 : decode cX7_digest 134 = .ok (.if_icmp .ge 8, 3) := by decide +kernel
theorem dX7_digest_137 : decode cX7_digest 137 = .ok (.bipush 7, 2) := by decide +kernel
theorem dX7_digest_139 : decode cX7_digest 139 = .ok (.goto 5, 3) := by decide +kernel
theorem dX7_digest_142 : decode cX7_digest 142 = .ok (.bipush 50, 2) := by decide +kernel
theorem dX7_digest_144 : decode cX7_digest 144 = .ok (.iload_n 1, 1) := by decide +kernel
theorem dX7_digest_145 : decode cX7_digest 145 = .ok (.iconst 3, 1) := by decide +kernel
theorem dX7_digest_146 : decode cX7_digest 146 = .ok (.irem, 1) := by decide +kernel
theorem dX7_digest_147 : decode cX7_digest 147 = .ok (.invokevirtual 169, 3) := by decide +kernel
theorem dX7_digest_150 : decode cX7_digest 150 = .ok (.i2l, 1) := by decide +kernel
theorem dX7_digest_151 : decode cX7_digest 151 = .ok (.invokevirtual 200, 3) := by decide +kernel
theorem dX7_digest_154 : decode cX7_digest 154 = .ok (.iinc 1 1, 3) := by decide +kernel
theorem dX7_digest_157 : decode cX7_digest 157 = .ok (.goto (-33), 3) := by decide +kernel
theorem dX7_digest_160 : decode cX7_digest 160 = .ok (.aload_n 0, 1) := by decide +kernel
theorem dX7_digest_161 : decode cX7_digest 161 = .ok (.aload_n 0, 1) := by decide +kernel
theorem dX7_digest_162 : decode cX7_digest 162 = .ok (.invokevirtual 184, 3) := by decide +kernel
theorem dX7_digest_165 : decode cX7_digest 165 = .ok (.i2l, 1) := by decide +kernel
theorem dX7_digest_166 : decode cX7_digest 166 = .ok (.invokevirtual 200, 3) := by decide +kernel
theorem dX7_digest_169 : decode cX7_digest 169 = .ok (.aload_n 0, 1) := by decide +kernel
theorem dX7_digest_170 : decode cX7_digest 170 = .ok (.aload_n 0, 1) := by decide +kernel
theorem dX7_digest_171 : decode cX7_digest 171 = .ok (.invokevirtual 187, 3) := by decide +kernel
theorem dX7_digest_174 : decode cX7_digest 174 = .ok (.i2l, 1) := by decide +kernel
theorem dX7_digest_175 : decode cX7_digest 175 = .ok (.invokevirtual 200, 3) := by decide +kernel
theorem dX7_digest_178 : decode cX7_digest 178 = .ok (.aload_n 0, 1) := by decide +kernel
theorem dX7_digest_179 : decode cX7_digest 179 = .ok (.aload_n 0, 1) := by decide +kernel
theorem dX7_digest_180 : decode cX7_digest 180 = .ok (.invokevirtual 190, 3) := by decide +kernel
theorem dX7_digest_183 : decode cX7_digest 183 = .ok (.invokestatic 209, 3) := by decide +kernel
theorem dX7_digest_186 : decode cX7_digest 186 = .ok (.invokevirtual 200, 3) := by decide +kernel
theorem dX7_digest_189 : decode cX7_digest 189 = .ok (.aload_n 0, 1) := by decide +kernel
theorem dX7_digest_190 : decode cX7_digest 190 = .ok (.aload_n 0, 1) := by decide +kernel
theorem dX7_digest_191 : decode cX7_digest 191 = .ok (.getfield 19, 3) := by decide +kernel
theorem dX7_digest_194 : decode cX7_digest 194 = .ok (.iconst 0, 1) := by decide +kernel
theorem dX7_digest_195 : decode cX7_digest 195 = .ok (.iaload, 1) := by decide +kernel
theorem dX7_digest_196 : decode cX7_digest 196 = .ok (.i2l, 1) := by decide +kernel
theorem dX7_digest_197 : decode cX7_digest 197 = .ok (.invokevirtual 200, 3) := by decide +kernel
theorem dX7_digest_200 : decode cX7_digest 200 = .ok (.aload_n 0, 1) := by decide +kernel
theorem dX7_digest_201 : decode cX7_digest 201 = .ok (.aload_n 0, 1) := by decide +kernel
theorem dX7_digest_202 : decode cX7_digest 202 = .ok (.getfield 19, 3) := by decide +kernel
theorem dX7_digest_205 : decode cX7_digest 205 = .ok (.iconst 1, 1) := by decide +kernel
theorem dX7_digest_206 : decode cX7_digest 206 = .ok (.iaload, 1) := by decide +kernel
theorem dX7_digest_207 : decode cX7_digest 207 = .ok (.i2l, 1) := by decide +kernel
theorem dX7_digest_208 : decode cX7_digest 208 = .ok (.invokevirtual 200, 3) := by decide +kernel
theorem dX7_digest_211 : decode cX7_digest 211 = .ok (.aload_n 0, 1) := by decide +kernel
theorem dX7_digest_212 : decode cX7_digest 212 = .ok (.aload_n 0, 1) := by decide +kernel
theorem dX7_digest_213 : decode cX7_digest 213 = .ok (.getfield 108, 3) := by decide +kernel
theorem dX7_digest_216 : decode cX7_digest 216 = .ok (.i2l, 1) := by decide +kernel
theorem dX7_digest_217 : decode cX7_digest 217 = .ok (.invokevirtual 200, 3) := by decide +kernel
theorem dX7_digest_220 : decode cX7_digest 220 = .ok (.iconst 0, 1) := by decide +kernel
theorem dX7_digest_221 : decode cX7_digest 221 = .ok (.istore_n 1, 1) := by decide +kernel
theorem dX7_digest_222 : decode cX7_digest 222 = .ok (.iload_n 1, 1) := by decide +kernel
theorem dX7_digest_223 : decode cX7_digest 223 = .ok (.aload_n 0, 1) := by decide +kernel
theorem dX7_digest_224 : decode cX7_digest 224 = .ok (.getfield 108, 3) := by decide +kernel
theorem dX7_digest_227 : decode cX7_digest 227 = .ok (.if_icmp .ge 20, 3) := by decide +kernel
theorem dX7_digest_230 : decode cX7_digest 230 = .ok (.aload_n 0, 1) := by decide +kernel
theorem dX7_digest_231 : decode cX7_digest 231 = .ok (.aload_n 0, 1) := by decide +kernel
theorem dX7_digest_232 : decode cX7_digest 232 = .ok (.getfield 22, 3) := by decide +kernel
theorem dX7_digest_235 : decode cX7_digest 235 = .ok (.iload_n 1, 1) := by decide +kernel
theorem dX7_digest_236 : decode cX7_digest 236 = .ok (.iaload, 1) := by decide +kernel
theorem dX7_digest_237 : decode cX7_digest 237 = .ok (.i2l, 1) := by decide +kernel
theorem dX7_digest_238 : decode cX7_digest 238 = .ok (.invokevirtual 200, 3) := by decide +kernel
theorem dX7_digest_241 : decode cX7_digest 241 = .ok (.iinc 1 1, 3) := by decide +kernel
theorem dX7_digest_244 : decode cX7_digest 244 = .ok (.goto (-22), 3) := by decide +kernel
theorem dX7_digest_247 : decode cX7_digest 247 = .ok (.aload_n 0, 1) := by decide +kernel
theorem dX7_digest_248 : decode cX7_digest 248 = .ok (.getfield 196, 3) := by decide +kernel
theorem dX7_digest_251 : decode cX7_digest 251 = .ok (.lreturn, 1) := by decide +kernel
end
section
theorem dJxe99ae_isNaN_b9ae7_0 : decode cJxe99ae_isNaN_b9ae7 0 = .ok (.dload_n 0, 1) := by decide +kernel
theorem dJxe99ae_isNaN_b9ae7_1 : decode cJxe99ae_isNaN_b9ae7 1 = .ok (.dload_n 0, 1) := by decide +kernel
theorem dJxe99ae_isNaN_b9ae7_2 : decode cJxe99ae_isNaN_b9ae7 2 = .ok (.dcmp .l, 1) := by decide +kernel
theorem dJxe99ae_isNaN_b9ae7_3 : decode cJxe99ae_isNaN_b9ae7 3 = .ok (.ifCond .eq 7, 3) := by decide +kernel
theorem dJxe99ae_isNaN_b9ae7_6 : decode cJxe99ae_isNaN_b9ae7 6 = .ok (.iconst 1, 1) := by decide +kernel
theorem dJxe99ae_isNaN_b9ae7_7 : decode cJxe99ae_isNaN_b9ae7 7 = .ok (.goto 4, 3) := by decide +kernel
theorem dJxe99ae_isNaN_b9ae7_10 : decode cJxe99ae_isNaN_b9ae7 10 = .ok (.iconst 0, 1) := by decide +kernel
theorem dJxe99ae_isNaN_b9ae7_11 : decode cJxe99ae_isNaN_b9ae7 11 = .ok (.ireturn, 1) := by decide +kernel
theorem dJxe99ae_doubleToLongBits_ccdee_0 : decode cJxe99ae_doubleToLongBits_ccdee 0 = .ok (.dload_n 0, 1) := by decide +kernel
theorem dJxe99ae_doubleToLongBits_ccdee_1 : decode cJxe99ae_doubleToLongBits_ccdee 1 = .ok (.invokestatic 122, 3) := by decide +kernel
theorem dJxe99ae_doubleToLongBits_ccdee_4 : decode cJxe99ae_doubleToLongBits_ccdee 4 = .ok (.ifCond .ne 8, 3) := by decide +kernel
theorem dJxe99ae_doubleToLongBits_ccdee_7 : decode cJxe99ae_doubleToLongBits_ccdee 7 = .ok (.dload_n 0, 1) := by decide +kernel
theorem dJxe99ae_doubleToLongBits_ccdee_8 : decode cJxe99ae_doubleToLongBits_ccdee 8 = .ok (.invokestatic 134, 3) := by decide +kernel
theorem dJxe99ae_doubleToLongBits_ccdee_11 : decode cJxe99ae_doubleToLongBits_ccdee 11 = .ok (.lreturn, 1) := by decide +kernel
theorem dJxe99ae_doubleToLongBits_ccdee_12 : decode cJxe99ae_doubleToLongBits_ccdee 12 = .ok (.ldc2_w 137, 3) := by decide +kernel
theorem dJxe99ae_doubleToLongBits_ccdee_15 : decode cJxe99ae_doubleToLongBits_ccdee 15 = .ok (.lreturn, 1) := by decide +kernel
theorem dJ9_max_7cf53_0 : decode cJ9_max_7cf53 0 = .ok (.iload_n 0, 1) := by decide +kernel
theorem dJ9_max_7cf53_1 : decode cJ9_max_7cf53 1 = .ok (.iload_n 1, 1) := by decide +kernel
theorem dJ9_max_7cf53_2 : decode cJ9_max_7cf53 2 = .ok (.if_icmp .lt 7, 3) := by decide +kernel
theorem dJ9_max_7cf53_5 : decode cJ9_max_7cf53 5 = .ok (.iload_n 0, 1) := by decide +kernel
theorem dJ9_max_7cf53_6 : decode cJ9_max_7cf53 6 = .ok (.goto 4, 3) := by decide +kernel
theorem dJ9_max_7cf53_9 : decode cJ9_max_7cf53 9 = .ok (.iload_n 1, 1) := by decide +kernel
theorem dJ9_max_7cf53_10 : decode cJ9_max_7cf53 10 = .ok (.ireturn, 1) := by decide +kernel
theorem dJ9_min_7cf53_0 : decode cJ9_min_7cf53 0 = .ok (.iload_n 0, 1) := by decide +kernel
theorem dJ9_min_7cf53_1 : decode cJ9_min_7cf53 1 = .ok (.iload_n 1, 1) := by decide +kernel
theorem dJ9_min_7cf53_2 : decode cJ9_min_7cf53 2 = .ok (.if_icmp .gt 7, 3) := by decide +kernel
theorem dJ9_min_7cf53_5 : decode cJ9_min_7cf53 5 = .ok (.iload_n 0, 1) := by decide +kernel
theorem dJ9_min_7cf53_6 : decode cJ9_min_7cf53 6 = .ok (.goto 4, 3) := by decide +kernel
theorem dJ9_min_7cf53_9 : decode cJ9_min_7cf53 9 = .ok (.iload_n 1, 1) := by decide +kernel
theorem dJ9_min_7cf53_10 : decode cJ9_min_7cf53 10 = .ok (.ireturn, 1) := by decide +kernel
theorem dL_call_0 : decode cL_call 0 = .ok (.aload_n 3, 1) := by decide +kernel
theorem dL_call_1 : decode cL_call 1 = .ok (.iconst 0, 1) := by decide +kernel
theorem dL_call_2 : decode cL_call 2 = .ok (.aload_n 0, 1) := by decide +kernel
theorem dL_call_3 : decode cL_call 3 = .ok (.iload_n 1, 1) := by decide +kernel
theorem dL_call_4 : decode cL_call 4 = .ok (.iload_n 2, 1) := by decide +kernel
theorem dL_call_5 : decode cL_call 5 = .ok (.invokevirtual 7, 3) := by decide +kernel
theorem dL_call_8 : decode cL_call 8 = .ok (.i2l, 1) := by decide +kernel
theorem dL_call_9 : decode cL_call 9 = .ok (.lastore, 1) := by decide +kernel
theorem dL_call_10 : decode cL_call 10 = .ok (.goto 11, 3) := by decide +kernel
theorem dL_call_13 : decode cL_call 13 = .ok (.astore 4, 2) := by decide +kernel
theorem dL_call_15 : decode cL_call 15 = .ok (.iconst 1, 1) := by decide +kernel
theorem dL_call_16 : decode cL_call 16 = .ok (.ireturn, 1) := by decide +kernel
theorem dL_call_17 : decode cL_call 17 = .ok (.astore 4, 2) := by decide +kernel
theorem dL_call_19 : decode cL_call 19 = .ok (.iconst 2, 1) := by decide +kernel
theorem dL_call_20 : decode cL_call 20 = .ok (.ireturn, 1) := by decide +kernel
theorem dL_call_21 : decode cL_call 21 = .ok (.iconst 0, 1) := by decide +kernel
theorem dL_call_22 : decode cL_call 22 = .ok (.ireturn, 1) := by decide +kernel
theorem dL_walk_0 : decode cL_walk 0 = .ok (.aload_n 3, 1) := by decide +kernel
theorem dL_walk_1 : decode cL_walk 1 = .ok (.iconst 0, 1) := by decide +kernel
theorem dL_walk_2 : decode cL_walk 2 = .ok (.aload_n 0, 1) := by decide +kernel
theorem dL_walk_3 : decode cL_walk 3 = .ok (.iload_n 1, 1) := by decide +kernel
theorem dL_walk_4 : decode cL_walk 4 = .ok (.iload_n 2, 1) := by decide +kernel
theorem dL_walk_5 : decode cL_walk 5 = .ok (.invokevirtual 17, 3) := by decide +kernel
theorem dL_walk_8 : decode cL_walk 8 = .ok (.i2l, 1) := by decide +kernel
theorem dL_walk_9 : decode cL_walk 9 = .ok (.lastore, 1) := by decide +kernel
theorem dL_walk_10 : decode cL_walk 10 = .ok (.goto 11, 3) := by decide +kernel
theorem dL_walk_13 : decode cL_walk 13 = .ok (.astore 4, 2) := by decide +kernel
theorem dL_walk_15 : decode cL_walk 15 = .ok (.iconst 1, 1) := by decide +kernel
theorem dL_walk_16 : decode cL_walk 16 = .ok (.ireturn, 1) := by decide +kernel
theorem dL_walk_17 : decode cL_walk 17 = .ok (.astore 4, 2) := by decide +kernel
theorem dL_walk_19 : decode cL_walk 19 = .ok (.iconst 2, 1) := by decide +kernel
theorem dL_walk_20 : decode cL_walk 20 = .ok (.ireturn, 1) := by decide +kernel
theorem dL_walk_21 : decode cL_walk 21 = .ok (.iconst 0, 1) := by decide +kernel
theorem dL_walk_22 : decode cL_walk 22 = .ok (.ireturn, 1) := by decide +kernel
theorem dL_throwBall_0 : decode cL_throwBall 0 = .ok (.aload 4, 2) := by decide +kernel
theorem dL_throwBall_2 : decode cL_throwBall 2 = .ok (.iconst 0, 1) := by decide +kernel
theorem dL_throwBall_3 : decode cL_throwBall 3 = .ok (.aload_n 0, 1) := by decide +kernel
theorem dL_throwBall_4 : decode cL_throwBall 4 = .ok (.iload_n 1, 1) := by decide +kernel
theorem dL_throwBall_5 : decode cL_throwBall 5 = .ok (.iload_n 2, 1) := by decide +kernel
theorem dL_throwBall_6 : decode cL_throwBall 6 = .ok (.iload_n 3, 1) := by decide +kernel
theorem dL_throwBall_7 : decode cL_throwBall 7 = .ok (.invokevirtual 20, 3) := by decide +kernel
theorem dL_throwBall_10 : decode cL_throwBall 10 = .ok (.i2l, 1) := by decide +kernel
theorem dL_throwBall_11 : decode cL_throwBall 11 = .ok (.lastore, 1) := by decide +kernel
theorem dL_throwBall_12 : decode cL_throwBall 12 = .ok (.goto 7, 3) := by decide +kernel
theorem dL_throwBall_15 : decode cL_throwBall 15 = .ok (.astore 5, 2) := by decide +kernel
theorem dL_throwBall_17 : decode cL_throwBall 17 = .ok (.iconst 1, 1) := by decide +kernel
theorem dL_throwBall_18 : decode cL_throwBall 18 = .ok (.ireturn, 1) := by decide +kernel
theorem dL_throwBall_19 : decode cL_throwBall 19 = .ok (.iconst 0, 1) := by decide +kernel
theorem dL_throwBall_20 : decode cL_throwBall 20 = .ok (.ireturn, 1) := by decide +kernel
theorem dL_set_0 : decode cL_set 0 = .ok (.aload_n 3, 1) := by decide +kernel
theorem dL_set_1 : decode cL_set 1 = .ok (.iconst 0, 1) := by decide +kernel
theorem dL_set_2 : decode cL_set 2 = .ok (.aload_n 0, 1) := by decide +kernel
theorem dL_set_3 : decode cL_set 3 = .ok (.iload_n 1, 1) := by decide +kernel
theorem dL_set_4 : decode cL_set 4 = .ok (.iload_n 2, 1) := by decide +kernel
theorem dL_set_5 : decode cL_set 5 = .ok (.invokevirtual 24, 3) := by decide +kernel
theorem dL_set_8 : decode cL_set 8 = .ok (.i2l, 1) := by decide +kernel
theorem dL_set_9 : decode cL_set 9 = .ok (.lastore, 1) := by decide +kernel
theorem dL_set_10 : decode cL_set 10 = .ok (.goto 15, 3) := by decide +kernel
theorem dL_set_13 : decode cL_set 13 = .ok (.astore 4, 2) := by decide +kernel
theorem dL_set_15 : decode cL_set 15 = .ok (.iconst 1, 1) := by decide +kernel
theorem dL_set_16 : decode cL_set 16 = .ok (.ireturn, 1) := by decide +kernel
theorem dL_set_17 : decode cL_set 17 = .ok (.astore 4, 2) := by decide +kernel
theorem dL_set_19 : decode cL_set 19 = .ok (.iconst 2, 1) := by decide +kernel
theorem dL_set_20 : decode cL_set 20 = .ok (.ireturn, 1) := by decide +kernel
theorem dL_set_21 : decode cL_set 21 = .ok (.astore 4, 2) := by decide +kernel
theorem dL_set_23 : decode cL_set 23 = .ok (.iconst 3, 1) := by decide +kernel
theorem dL_set_24 : decode cL_set 24 = .ok (.ireturn, 1) := by decide +kernel
theorem dL_set_25 : decode cL_set 25 = .ok (.iconst 0, 1) := by decide +kernel
theorem dL_set_26 : decode cL_set 26 = .ok (.ireturn, 1) := by decide +kernel
theorem dL_pass_0 : decode cL_pass 0 = .ok (.aload_n 2, 1) := by decide +kernel
theorem dL_pass_1 : decode cL_pass 1 = .ok (.iconst 0, 1) := by decide +kernel
theorem dL_pass_2 : decode cL_pass 2 = .ok (.aload_n 0, 1) := by decide +kernel
theorem dL_pass_3 : decode cL_pass 3 = .ok (.iload_n 1, 1) := by decide +kernel
theorem dL_pass_4 : decode cL_pass 4 = .ok (.invokevirtual 29, 3) := by decide +kernel
theorem dL_pass_7 : decode cL_pass 7 = .ok (.i2l, 1) := by decide +kernel
theorem dL_pass_8 : decode cL_pass 8 = .ok (.lastore, 1) := by decide +kernel
theorem dL_pass_9 : decode cL_pass 9 = .ok (.goto 9, 3) := by decide +kernel
theorem dL_pass_12 : decode cL_pass 12 = .ok (.astore_n 3, 1) := by decide +kernel
theorem dL_pass_13 : decode cL_pass 13 = .ok (.iconst 1, 1) := by decide +kernel
theorem dL_pass_14 : decode cL_pass 14 = .ok (.ireturn, 1) := by decide +kernel
theorem dL_pass_15 : decode cL_pass 15 = .ok (.astore_n 3, 1) := by decide +kernel
theorem dL_pass_16 : decode cL_pass 16 = .ok (.iconst 2, 1) := by decide +kernel
theorem dL_pass_17 : decode cL_pass 17 = .ok (.ireturn, 1) := by decide +kernel
theorem dL_pass_18 : decode cL_pass 18 = .ok (.iconst 0, 1) := by decide +kernel
theorem dL_pass_19 : decode cL_pass 19 = .ok (.ireturn, 1) := by decide +kernel
theorem dL_append_0 : decode cL_append 0 = .ok (.aload_n 2, 1) := by decide +kernel
theorem dL_append_1 : decode cL_append 1 = .ok (.iconst 0, 1) := by decide +kernel
theorem dL_append_2 : decode cL_append 2 = .ok (.aload_n 0, 1) := by decide +kernel
theorem dL_append_3 : decode cL_append 3 = .ok (.iload_n 1, 1) := by decide +kernel
theorem dL_append_4 : decode cL_append 4 = .ok (.invokevirtual 33, 3) := by decide +kernel
theorem dL_append_7 : decode cL_append 7 = .ok (.i2l, 1) := by decide +kernel
theorem dL_append_8 : decode cL_append 8 = .ok (.lastore, 1) := by decide +kernel
theorem dL_append_9 : decode cL_append 9 = .ok (.goto 9, 3) := by decide +kernel
theorem dL_append_12 : decode cL_append 12 = .ok (.astore_n 3, 1) := by decide +kernel
theorem dL_append_13 : decode cL_append 13 = .ok (.iconst 1, 1) := by decide +kernel
theorem dL_append_14 : decode cL_append 14 = .ok (.ireturn, 1) := by decide +kernel
theorem dL_append_15 : decode cL_append 15 = .ok (.astore_n 3, 1) := by decide +kernel
theorem dL_append_16 : decode cL_append 16 = .ok (.iconst 2, 1) := by decide +kernel
theorem dL_append_17 : decode cL_append 17 = .ok (.ireturn, 1) := by decide +kernel
theorem dL_append_18 : decode cL_append 18 = .ok (.iconst 0, 1) := by decide +kernel
theorem dL_append_19 : decode cL_append 19 = .ok (.ireturn, 1) := by decide +kernel
theorem dL_run_0 : decode cL_run 0 = .ok (.aload_n 1, 1) := by decide +kernel
theorem dL_run_1 : decode cL_run 1 = .ok (.iconst 0, 1) := by decide +kernel
theorem dL_run_2 : decode cL_run 2 = .ok (.aload_n 0, 1) := by decide +kernel
theorem dL_run_3 : decode cL_run 3 = .ok (.invokevirtual 36, 3) := by decide +kernel
theorem dL_run_6 : decode cL_run 6 = .ok (.i2l, 1) := by decide +kernel
theorem dL_run_7 : decode cL_run 7 = .ok (.lastore, 1) := by decide +kernel
theorem dL_run_8 : decode cL_run 8 = .ok (.goto 6, 3) := by decide +kernel
theorem dL_run_11 : decode cL_run 11 = .ok (.astore_n 2, 1) := by decide +kernel
theorem dL_run_12 : decode cL_run 12 = .ok (.iconst 1, 1) := by decide +kernel
theorem dL_run_13 : decode cL_run 13 = .ok (.ireturn, 1) := by decide +kernel
theorem dL_run_14 : decode cL_run 14 = .ok (.iconst 0, 1) := by decide +kernel
theorem dL_run_15 : decode cL_run 15 = .ok (.ireturn, 1) := by decide +kernel
theorem dL_keep_0 : decode cL_keep 0 = .ok (.aload_n 2, 1) := by decide +kernel
theorem dL_keep_1 : decode cL_keep 1 = .ok (.iconst 0, 1) := by decide +kernel
theorem dL_keep_2 : decode cL_keep 2 = .ok (.aload_n 0, 1) := by decide +kernel
theorem dL_keep_3 : decode cL_keep 3 = .ok (.iload_n 1, 1) := by decide +kernel
theorem dL_keep_4 : decode cL_keep 4 = .ok (.invokevirtual 40, 3) := by decide +kernel
theorem dL_keep_7 : decode cL_keep 7 = .ok (.i2l, 1) := by decide +kernel
theorem dL_keep_8 : decode cL_keep 8 = .ok (.lastore, 1) := by decide +kernel
theorem dL_keep_9 : decode cL_keep 9 = .ok (.goto 6, 3) := by decide +kernel
theorem dL_keep_12 : decode cL_keep 12 = .ok (.astore_n 3, 1) := by decide +kernel
theorem dL_keep_13 : decode cL_keep 13 = .ok (.iconst 1, 1) := by decide +kernel
theorem dL_keep_14 : decode cL_keep 14 = .ok (.ireturn, 1) := by decide +kernel
theorem dL_keep_15 : decode cL_keep 15 = .ok (.iconst 0, 1) := by decide +kernel
theorem dL_keep_16 : decode cL_keep 16 = .ok (.ireturn, 1) := by decide +kernel
theorem dL_goBack_0 : decode cL_goBack 0 = .ok (.aload_n 2, 1) := by decide +kernel
theorem dL_goBack_1 : decode cL_goBack 1 = .ok (.iconst 0, 1) := by decide +kernel
theorem dL_goBack_2 : decode cL_goBack 2 = .ok (.aload_n 0, 1) := by decide +kernel
theorem dL_goBack_3 : decode cL_goBack 3 = .ok (.iload_n 1, 1) := by decide +kernel
theorem dL_goBack_4 : decode cL_goBack 4 = .ok (.invokevirtual 43, 3) := by decide +kernel
theorem dL_goBack_7 : decode cL_goBack 7 = .ok (.i2l, 1) := by decide +kernel
theorem dL_goBack_8 : decode cL_goBack 8 = .ok (.lastore, 1) := by decide +kernel
theorem dL_goBack_9 : decode cL_goBack 9 = .ok (.goto 9, 3) := by decide +kernel
theorem dL_goBack_12 : decode cL_goBack 12 = .ok (.astore_n 3, 1) := by decide +kernel
theorem dL_goBack_13 : decode cL_goBack 13 = .ok (.iconst 1, 1) := by decide +kernel
theorem dL_goBack_14 : decode cL_goBack 14 = .ok (.ireturn, 1) := by decide +kernel
theorem dL_goBack_15 : decode cL_goBack 15 = .ok (.astore_n 3, 1) := by decide +kernel
theorem dL_goBack_16 : decode cL_goBack 16 = .ok (.iconst 2, 1) := by decide +kernel
theorem dL_goBack_17 : decode cL_goBack 17 = .ok (.ireturn, 1) := by decide +kernel
theorem dL_goBack_18 : decode cL_goBack 18 = .ok (.iconst 0, 1) := by decide +kernel
theorem dL_goBack_19 : decode cL_goBack 19 = .ok (.ireturn, 1) := by decide +kernel
theorem dL_undo_0 : decode cL_undo 0 = .ok (.aload_n 1, 1) := by decide +kernel
theorem dL_undo_1 : decode cL_undo 1 = .ok (.iconst 0, 1) := by decide +kernel
theorem dL_undo_2 : decode cL_undo 2 = .ok (.aload_n 0, 1) := by decide +kernel
theorem dL_undo_3 : decode cL_undo 3 = .ok (.invokevirtual 46, 3) := by decide +kernel
theorem dL_undo_6 : decode cL_undo 6 = .ok (.i2l, 1) := by decide +kernel
theorem dL_undo_7 : decode cL_undo 7 = .ok (.lastore, 1) := by decide +kernel
theorem dL_undo_8 : decode cL_undo 8 = .ok (.goto 6, 3) := by decide +kernel
theorem dL_undo_11 : decode cL_undo 11 = .ok (.astore_n 2, 1) := by decide +kernel
theorem dL_undo_12 : decode cL_undo 12 = .ok (.iconst 1, 1) := by decide +kernel
theorem dL_undo_13 : decode cL_undo 13 = .ok (.ireturn, 1) := by decide +kernel
theorem dL_undo_14 : decode cL_undo 14 = .ok (.iconst 0, 1) := by decide +kernel
theorem dL_undo_15 : decode cL_undo 15 = .ok (.ireturn, 1) := by decide +kernel
theorem dL_playerOf_0 : decode cL_playerOf 0 = .ok (.aload_n 3, 1) := by decide +kernel
theorem dL_playerOf_1 : decode cL_playerOf 1 = .ok (.iconst 0, 1) := by decide +kernel
theorem dL_playerOf_2 : decode cL_playerOf 2 = .ok (.aload_n 0, 1) := by decide +kernel
theorem dL_playerOf_3 : decode cL_playerOf 3 = .ok (.iload_n 1, 1) := by decide +kernel
theorem dL_playerOf_4 : decode cL_playerOf 4 = .ok (.iload_n 2, 1) := by decide +kernel
theorem dL_playerOf_5 : decode cL_playerOf 5 = .ok (.invokevirtual 49, 3) := by decide +kernel
theorem dL_playerOf_8 : decode cL_playerOf 8 = .ok (.i2l, 1) := by decide +kernel
theorem dL_playerOf_9 : decode cL_playerOf 9 = .ok (.lastore, 1) := by decide +kernel
theorem dL_playerOf_10 : decode cL_playerOf 10 = .ok (.goto 11, 3) := by decide +kernel
theorem dL_playerOf_13 : decode cL_playerOf 13 = .ok (.astore 4, 2) := by decide +kernel
theorem dL_playerOf_15 : decode cL_playerOf 15 = .ok (.iconst 1, 1) := by decide +kernel
theorem dL_playerOf_16 : decode cL_playerOf 16 = .ok (.ireturn, 1) := by decide +kernel
theorem dL_playerOf_17 : decode cL_playerOf 17 = .ok (.astore 4, 2) := by decide +kernel
theorem dL_playerOf_19 : decode cL_playerOf 19 = .ok (.iconst 2, 1) := by decide +kernel
theorem dL_playerOf_20 : decode cL_playerOf 20 = .ok (.ireturn, 1) := by decide +kernel
theorem dL_playerOf_21 : decode cL_playerOf 21 = .ok (.iconst 0, 1) := by decide +kernel
theorem dL_playerOf_22 : decode cL_playerOf 22 = .ok (.ireturn, 1) := by decide +kernel
theorem dL_echoOf_0 : decode cL_echoOf 0 = .ok (.aload_n 3, 1) := by decide +kernel
theorem dL_echoOf_1 : decode cL_echoOf 1 = .ok (.iconst 0, 1) := by decide +kernel
theorem dL_echoOf_2 : decode cL_echoOf 2 = .ok (.aload_n 0, 1) := by decide +kernel
theorem dL_echoOf_3 : decode cL_echoOf 3 = .ok (.iload_n 1, 1) := by decide +kernel
theorem dL_echoOf_4 : decode cL_echoOf 4 = .ok (.iload_n 2, 1) := by decide +kernel
theorem dL_echoOf_5 : decode cL_echoOf 5 = .ok (.invokevirtual 52, 3) := by decide +kernel
theorem dL_echoOf_8 : decode cL_echoOf 8 = .ok (.i2l, 1) := by decide +kernel
theorem dL_echoOf_9 : decode cL_echoOf 9 = .ok (.lastore, 1) := by decide +kernel
theorem dL_echoOf_10 : decode cL_echoOf 10 = .ok (.goto 7, 3) := by decide +kernel
theorem dL_echoOf_13 : decode cL_echoOf 13 = .ok (.astore 4, 2) := by decide +kernel
theorem dL_echoOf_15 : decode cL_echoOf 15 = .ok (.iconst 1, 1) := by decide +kernel
theorem dL_echoOf_16 : decode cL_echoOf 16 = .ok (.ireturn, 1) := by decide +kernel
theorem dL_echoOf_17 : decode cL_echoOf 17 = .ok (.iconst 0, 1) := by decide +kernel
theorem dL_echoOf_18 : decode cL_echoOf 18 = .ok (.ireturn, 1) := by decide +kernel
theorem dL_count_0 : decode cL_count 0 = .ok (.aload_n 2, 1) := by decide +kernel
theorem dL_count_1 : decode cL_count 1 = .ok (.iconst 0, 1) := by decide +kernel
theorem dL_count_2 : decode cL_count 2 = .ok (.aload_n 0, 1) := by decide +kernel
theorem dL_count_3 : decode cL_count 3 = .ok (.iload_n 1, 1) := by decide +kernel
theorem dL_count_4 : decode cL_count 4 = .ok (.invokevirtual 55, 3) := by decide +kernel
theorem dL_count_7 : decode cL_count 7 = .ok (.i2l, 1) := by decide +kernel
theorem dL_count_8 : decode cL_count 8 = .ok (.lastore, 1) := by decide +kernel
theorem dL_count_9 : decode cL_count 9 = .ok (.goto 6, 3) := by decide +kernel
theorem dL_count_12 : decode cL_count 12 = .ok (.astore_n 3, 1) := by decide +kernel
theorem dL_count_13 : decode cL_count 13 = .ok (.iconst 1, 1) := by decide +kernel
theorem dL_count_14 : decode cL_count 14 = .ok (.ireturn, 1) := by decide +kernel
theorem dL_count_15 : decode cL_count 15 = .ok (.iconst 0, 1) := by decide +kernel
theorem dL_count_16 : decode cL_count 16 = .ok (.ireturn, 1) := by decide +kernel
theorem dL_setting_0 : decode cL_setting 0 = .ok (.aload_n 2, 1) := by decide +kernel
theorem dL_setting_1 : decode cL_setting 1 = .ok (.iconst 0, 1) := by decide +kernel
theorem dL_setting_2 : decode cL_setting 2 = .ok (.aload_n 0, 1) := by decide +kernel
theorem dL_setting_3 : decode cL_setting 3 = .ok (.iload_n 1, 1) := by decide +kernel
theorem dL_setting_4 : decode cL_setting 4 = .ok (.invokevirtual 58, 3) := by decide +kernel
theorem dL_setting_7 : decode cL_setting 7 = .ok (.i2l, 1) := by decide +kernel
theorem dL_setting_8 : decode cL_setting 8 = .ok (.lastore, 1) := by decide +kernel
theorem dL_setting_9 : decode cL_setting 9 = .ok (.goto 6, 3) := by decide +kernel
theorem dL_setting_12 : decode cL_setting 12 = .ok (.astore_n 3, 1) := by decide +kernel
theorem dL_setting_13 : decode cL_setting 13 = .ok (.iconst 1, 1) := by decide +kernel
theorem dL_setting_14 : decode cL_setting 14 = .ok (.ireturn, 1) := by decide +kernel
theorem dL_setting_15 : decode cL_setting 15 = .ok (.iconst 0, 1) := by decide +kernel
theorem dL_setting_16 : decode cL_setting 16 = .ok (.ireturn, 1) := by decide +kernel
theorem dL_ballIn_0 : decode cL_ballIn 0 = .ok (.aload_n 3, 1) := by decide +kernel
theorem dL_ballIn_1 : decode cL_ballIn 1 = .ok (.iconst 0, 1) := by decide +kernel
theorem dL_ballIn_2 : decode cL_ballIn 2 = .ok (.aload_n 0, 1) := by decide +kernel
theorem dL_ballIn_3 : decode cL_ballIn 3 = .ok (.iload_n 1, 1) := by decide +kernel
theorem dL_ballIn_4 : decode cL_ballIn 4 = .ok (.iload_n 2, 1) := by decide +kernel
theorem dL_ballIn_5 : decode cL_ballIn 5 = .ok (.invokevirtual 61, 3) := by decide +kernel
theorem dL_ballIn_8 : decode cL_ballIn 8 = .ok (.i2l, 1) := by decide +kernel
theorem dL_ballIn_9 : decode cL_ballIn 9 = .ok (.lastore, 1) := by decide +kernel
theorem dL_ballIn_10 : decode cL_ballIn 10 = .ok (.goto 7, 3) := by decide +kernel
theorem dL_ballIn_13 : decode cL_ballIn 13 = .ok (.astore 4, 2) := by decide +kernel
theorem dL_ballIn_15 : decode cL_ballIn 15 = .ok (.iconst 1, 1) := by decide +kernel
theorem dL_ballIn_16 : decode cL_ballIn 16 = .ok (.ireturn, 1) := by decide +kernel
theorem dL_ballIn_17 : decode cL_ballIn 17 = .ok (.iconst 0, 1) := by decide +kernel
theorem dL_ballIn_18 : decode cL_ballIn 18 = .ok (.ireturn, 1) := by decide +kernel
theorem dL_echoIn_0 : decode cL_echoIn 0 = .ok (.aload_n 3, 1) := by decide +kernel
theorem dL_echoIn_1 : decode cL_echoIn 1 = .ok (.iconst 0, 1) := by decide +kernel
theorem dL_echoIn_2 : decode cL_echoIn 2 = .ok (.aload_n 0, 1) := by decide +kernel
theorem dL_echoIn_3 : decode cL_echoIn 3 = .ok (.iload_n 1, 1) := by decide +kernel
theorem dL_echoIn_4 : decode cL_echoIn 4 = .ok (.iload_n 2, 1) := by decide +kernel
theorem dL_echoIn_5 : decode cL_echoIn 5 = .ok (.invokevirtual 64, 3) := by decide +kernel
theorem dL_echoIn_8 : decode cL_echoIn 8 = .ok (.i2l, 1) := by decide +kernel
theorem dL_echoIn_9 : decode cL_echoIn 9 = .ok (.lastore, 1) := by decide +kernel
theorem dL_echoIn_10 : decode cL_echoIn 10 = .ok (.goto 11, 3) := by decide +kernel
theorem dL_echoIn_13 : decode cL_echoIn 13 = .ok (.astore 4, 2) := by decide +kernel
theorem dL_echoIn_15 : decode cL_echoIn 15 = .ok (.iconst 1, 1) := by decide +kernel
theorem dL_echoIn_16 : decode cL_echoIn 16 = .ok (.ireturn, 1) := by decide +kernel
theorem dL_echoIn_17 : decode cL_echoIn 17 = .ok (.astore 4, 2) := by decide +kernel
theorem dL_echoIn_19 : decode cL_echoIn 19 = .ok (.iconst 2, 1) := by decide +kernel
theorem dL_echoIn_20 : decode cL_echoIn 20 = .ok (.ireturn, 1) := by decide +kernel
theorem dL_echoIn_21 : decode cL_echoIn 21 = .ok (.iconst 0, 1) := by decide +kernel
theorem dL_echoIn_22 : decode cL_echoIn 22 = .ok (.ireturn, 1) := by decide +kernel
theorem dL_wouldClash_0 : decode cL_wouldClash 0 = .ok (.aload_n 3, 1) := by decide +kernel
theorem dL_wouldClash_1 : decode cL_wouldClash 1 = .ok (.iconst 0, 1) := by decide +kernel
theorem dL_wouldClash_2 : decode cL_wouldClash 2 = .ok (.aload_n 0, 1) := by decide +kernel
theorem dL_wouldClash_3 : decode cL_wouldClash 3 = .ok (.iload_n 1, 1) := by decide +kernel
theorem dL_wouldClash_4 : decode cL_wouldClash 4 = .ok (.iload_n 2, 1) := by decide +kernel
theorem dL_wouldClash_5 : decode cL_wouldClash 5 = .ok (.invokevirtual 67, 3) := by decide +kernel
theorem dL_wouldClash_8 : decode cL_wouldClash 8 = .ok (.i2l, 1) := by decide +kernel
theorem dL_wouldClash_9 : decode cL_wouldClash 9 = .ok (.lastore, 1) := by decide +kernel
theorem dL_wouldClash_10 : decode cL_wouldClash 10 = .ok (.goto 11, 3) := by decide +kernel
theorem dL_wouldClash_13 : decode cL_wouldClash 13 = .ok (.astore 4, 2) := by decide +kernel
theorem dL_wouldClash_15 : decode cL_wouldClash 15 = .ok (.iconst 1, 1) := by decide +kernel
theorem dL_wouldClash_16 : decode cL_wouldClash 16 = .ok (.ireturn, 1) := by decide +kernel
theorem dL_wouldClash_17 : decode cL_wouldClash 17 = .ok (.astore 4, 2) := by decide +kernel
theorem dL_wouldClash_19 : decode cL_wouldClash 19 = .ok (.iconst 2, 1) := by decide +kernel
theorem dL_wouldClash_20 : decode cL_wouldClash 20 = .ok (.ireturn, 1) := by decide +kernel
theorem dL_wouldClash_21 : decode cL_wouldClash 21 = .ok (.iconst 0, 1) := by decide +kernel
theorem dL_wouldClash_22 : decode cL_wouldClash 22 = .ok (.ireturn, 1) := by decide +kernel
theorem dL_callIn_0 : decode cL_callIn 0 = .ok (.aload_n 2, 1) := by decide +kernel
theorem dL_callIn_1 : decode cL_callIn 1 = .ok (.iconst 0, 1) := by decide +kernel
theorem dL_callIn_2 : decode cL_callIn 2 = .ok (.aload_n 0, 1) := by decide +kernel
theorem dL_callIn_3 : decode cL_callIn 3 = .ok (.iload_n 1, 1) := by decide +kernel
theorem dL_callIn_4 : decode cL_callIn 4 = .ok (.invokevirtual 70, 3) := by decide +kernel
theorem dL_callIn_7 : decode cL_callIn 7 = .ok (.i2l, 1) := by decide +kernel
theorem dL_callIn_8 : decode cL_callIn 8 = .ok (.lastore, 1) := by decide +kernel
theorem dL_callIn_9 : decode cL_callIn 9 = .ok (.goto 6, 3) := by decide +kernel
theorem dL_callIn_12 : decode cL_callIn 12 = .ok (.astore_n 3, 1) := by decide +kernel
theorem dL_callIn_13 : decode cL_callIn 13 = .ok (.iconst 1, 1) := by decide +kernel
theorem dL_callIn_14 : decode cL_callIn 14 = .ok (.ireturn, 1) := by decide +kernel
theorem dL_callIn_15 : decode cL_callIn 15 = .ok (.iconst 0, 1) := by decide +kernel
theorem dL_callIn_16 : decode cL_callIn 16 = .ok (.ireturn, 1) := by decide +kernel
theorem dL_law_0 : decode cL_law 0 = .ok (.new 8, 3) := by decide +kernel
theorem dL_law_3 : decode cL_law 3 = .ok (.dup, 1) := by decide +kernel
theorem dL_law_4 : decode cL_law 4 = .ok (.invokespecial 73, 3) := by decide +kernel
theorem dL_law_7 : decode cL_law 7 = .ok (.astore_n 1, 1) := by decide +kernel
theorem dL_law_8 : decode cL_law 8 = .ok (.new 74, 3) := by decide +kernel
theorem dL_law_11 : decode cL_law 11 = .ok (.dup, 1) := by decide +kernel
theorem dL_law_12 : decode cL_law 12 = .ok (.invokespecial 76, 3) := by decide +kernel
theorem dL_law_15 : decode cL_law 15 = .ok (.astore_n 2, 1) := by decide +kernel
theorem dL_law_16 : decode cL_law 16 = .ok (.iconst 1, 1) := by decide +kernel
theorem dL_law_17 : decode cL_law 17 = .ok (.newarray .long, 2) := by decide +kernel
theorem dL_law_19 : decode cL_law 19 = .ok (.astore_n 3, 1) := by decide +kernel
theorem dL_law_20 : decode cL_law 20 = .ok (.iconst 0, 1) := by decide +kernel
theorem dL_law_21 : decode cL_law 21 = .ok (.istore 4, 2) := by decide +kernel
theorem dL_law_23 : decode cL_law 23 = .ok (.iload 4, 2) := by decide +kernel
theorem dL_law_25 : decode cL_law 25 = .ok (.aload_n 0, 1) := by decide +kernel
theorem dL_law_26 : decode cL_law 26 = .ok (.arraylength, 1) := by decide +kernel
theorem dL_law_27 : decode cL_law 27 = .ok (.iconst 4, 1) := by decide +kernel
theorem dL_law_28 : decode cL_law 28 = .ok (.isub, 1) := by decide +kernel
theorem dL_law_29 : decode cL_law 29 = .ok (.if_icmp .gt 1352, 3) := by decide +kernel
theorem dL_law_32 : decode cL_law 32 = .ok (.aload_n 0, 1) := by decide +kernel
theorem dL_law_33 : decode cL_law 33 = .ok (.iload 4, 2) := by decide +kernel
theorem dL_law_35 : decode cL_law 35 = .ok (.iaload, 1) := by decide +kernel
theorem dL_law_36 : decode cL_law 36 = .ok (.bipush 31, 2) := by decide +kernel
theorem dL_law_38 : decode cL_law 38 = .ok (.iand, 1) := by decide +kernel
theorem dL_law_39 : decode cL_law 39 = .ok (.tableswitch 1336 0 23 #[109, 177, 245, 341, 409, 465, 521, 534, 547, 591, 647, 703, 747, 815, 883, 939, 995, 1063, 1131, 1199, 1255, 1268, 1281, 1322], 109) := by decide +kernel
theorem dL_law_148 : decode cL_law 148 = .ok (.aload_n 1, 1) := by decide +kernel
theorem dL_law_149 : decode cL_law 149 = .ok (.aload_n 0, 1) := by decide +kernel
theorem dL_law_150 : decode cL_law 150 = .ok (.iload 4, 2) := by decide +kernel
theorem dL_law_152 : decode cL_law 152 = .ok (.iconst 1, 1) := by decide +kernel
theorem dL_law_153 : decode cL_law 153 = .ok (.iadd, 1) := by decide +kernel
theorem dL_law_154 : decode cL_law 154 = .ok (.iaload, 1) := by decide +kernel
theorem dL_law_155 : decode cL_law 155 = .ok (.aload_n 0, 1) := by decide +kernel
theorem dL_law_156 : decode cL_law 156 = .ok (.iload 4, 2) := by decide +kernel
theorem dL_law_158 : decode cL_law 158 = .ok (.iconst 2, 1) := by decide +kernel
theorem dL_law_159 : decode cL_law 159 = .ok (.iadd, 1) := by decide +kernel
theorem dL_law_160 : decode cL_law 160 = .ok (.iaload, 1) := by decide +kernel
theorem dL_law_161 : decode cL_law 161 = .ok (.aload_n 3, 1) := by decide +kernel
theorem dL_law_162 : decode cL_law 162 = .ok (.invokestatic 77, 3) := by decide +kernel
theorem dL_law_165 : decode cL_law 165 = .ok (.istore 5, 2) := by decide +kernel
theorem dL_law_167 : decode cL_law 167 = .ok (.aload_n 2, 1) := by decide +kernel
theorem dL_law_168 : decode cL_law 168 = .ok (.aload_n 0, 1) := by decide +kernel
theorem dL_law_169 : decode cL_law 169 = .ok (.iload 4, 2) := by decide +kernel
theorem dL_law_171 : decode cL_law 171 = .ok (.iconst 1, 1) := by decide +kernel
theorem dL_law_172 : decode cL_law 172 = .ok (.iadd, 1) := by decide +kernel
theorem dL_law_173 : decode cL_law 173 = .ok (.iaload, 1) := by decide +kernel
theorem dL_law_174 : decode cL_law 174 = .ok (.aload_n 0, 1) := by decide +kernel
theorem dL_law_175 : decode cL_law 175 = .ok (.iload 4, 2) := by decide +kernel
theorem dL_law_177 : decode cL_law 177 = .ok (.iconst 2, 1) := by decide +kernel
theorem dL_law_178 : decode cL_law 178 = .ok (.iadd, 1) := by decide +kernel
theorem dL_law_179 : decode cL_law 179 = .ok (.iaload, 1) := by decide +kernel
theorem dL_law_180 : decode cL_law 180 = .ok (.invokevirtual 82, 3) := by decide +kernel
theorem dL_law_183 : decode cL_law 183 = .ok (.istore 6, 2) := by decide +kernel
theorem dL_law_185 : decode cL_law 185 = .ok (.aload_n 2, 1) := by decide +kernel
theorem dL_law_186 : decode cL_law 186 = .ok (.invokevirtual 83, 3) := by decide +kernel
theorem dL_law_189 : decode cL_law 189 = .ok (.iload 5, 2) := by decide +kernel
theorem dL_law_191 : decode cL_law 191 = .ok (.if_icmp .eq 5, 3) := by decide +kernel
theorem dL_law_194 : decode cL_law 194 = .ok (.iconst 0, 1) := by decide +kernel
theorem dL_law_195 : decode cL_law 195 = .ok (.ireturn, 1) := by decide +kernel
theorem dL_law_196 : decode cL_law 196 = .ok (.iload 5, 2) := by decide +kernel
theorem dL_law_198 : decode cL_law 198 = .ok (.ifCond .ne 15, 3) := by decide +kernel
theorem dL_law_201 : decode cL_law 201 = .ok (.aload_n 3, 1) := by decide +kernel
theorem dL_law_202 : decode cL_law 202 = .ok (.iconst 0, 1) := by decide +kernel
theorem dL_law_203 : decode cL_law 203 = .ok (.laload, 1) := by decide +kernel
theorem dL_law_204 : decode cL_law 204 = .ok (.iload 6, 2) := by decide +kernel
theorem dL_law_206 : decode cL_law 206 = .ok (.i2l, 1) := by decide +kernel
theorem dL_law_207 : decode cL_law 207 = .ok (.lcmp, 1) := by decide +kernel
theorem dL_law_208 : decode cL_law 208 = .ok (.ifCond .eq 5, 3) := by decide +kernel
theorem dL_law_211 : decode cL_law 211 = .ok (.iconst 0, 1) := by decide +kernel
theorem dL_law_212 : decode cL_law 212 = .ok (.ireturn, 1) := by decide +kernel
theorem dL_law_213 : decode cL_law 213 = .ok (.goto 1162, 3) := by decide +kernel
theorem dL_law_216 : decode cL_law 216 = .ok (.aload_n 1, 1) := by decide +kernel
theorem dL_law_217 : decode cL_law 217 = .ok (.aload_n 0, 1) := by decide +kernel
theorem dL_law_218 : decode cL_law 218 = .ok (.iload 4, 2) := by decide +kernel
theorem dL_law_220 : decode cL_law 220 = .ok (.iconst 1, 1) := by decide +kernel
theorem dL_law_221 : decode cL_law 221 = .ok (.iadd, 1) := by decide +kernel
theorem dL_law_222 : decode cL_law 222 = .ok (.iaload, 1) := by decide +kernel
theorem dL_law_223 : decode cL_law 223 = .ok (.aload_n 0, 1) := by decide +kernel
theorem dL_law_224 : decode cL_law 224 = .ok (.iload 4, 2) := by decide +kernel
theorem dL_law_226 : decode cL_law 226 = .ok (.iconst 2, 1) := by decide +kernel
theorem dL_law_227 : decode cL_law 227 = .ok (.iadd, 1) := by decide +kernel
theorem dL_law_228 : decode cL_law 228 = .ok (.iaload, 1) := by decide +kernel
theorem dL_law_229 : decode cL_law 229 = .ok (.aload_n 3, 1) := by decide +kernel
theorem dL_law_230 : decode cL_law 230 = .ok (.invokestatic 86, 3) := by decide +kernel
theorem dL_law_233 : decode cL_law 233 = .ok (.istore 5, 2) := by decide +kernel
theorem dL_law_235 : decode cL_law 235 = .ok (.aload_n 2, 1) := by decide +kernel
theorem dL_law_236 : decode cL_law 236 = .ok (.aload_n 0, 1) := by decide +kernel
theorem dL_law_237 : decode cL_law 237 = .ok (.iload 4, 2) := by decide +kernel
theorem dL_law_239 : decode cL_law 239 = .ok (.iconst 1, 1) := by decide +kernel
theorem dL_law_240 : decode cL_law 240 = .ok (.iadd, 1) := by decide +kernel
theorem dL_law_241 : decode cL_law 241 = .ok (.iaload, 1) := by decide +kernel
theorem dL_law_242 : decode cL_law 242 = .ok (.aload_n 0, 1) := by decide +kernel
theorem dL_law_243 : decode cL_law 243 = .ok (.iload 4, 2) := by decide +kernel
theorem dL_law_245 : decode cL_law 245 = .ok (.iconst 2, 1) := by decide +kernel
theorem dL_law_246 : decode cL_law 246 = .ok (.iadd, 1) := by decide +kernel
theorem dL_law_247 : decode cL_law 247 = .ok (.iaload, 1) := by decide +kernel
theorem dL_law_248 : decode cL_law 248 = .ok (.invokevirtual 88, 3) := by decide +kernel
theorem dL_law_251 : decode cL_law 251 = .ok (.istore 6, 2) := by decide +kernel
theorem dL_law_253 : decode cL_law 253 = .ok (.aload_n 2, 1) := by decide +kernel
theorem dL_law_254 : decode cL_law 254 = .ok (.invokevirtual 83, 3) := by decide +kernel
theorem dL_law_257 : decode cL_law 257 = .ok (.iload 5, 2) := by decide +kernel
theorem dL_law_259 : decode cL_law 259 = .ok (.if_icmp .eq 5, 3) := by decide +kernel
theorem dL_law_262 : decode cL_law 262 = .ok (.iconst 0, 1) := by decide +kernel
theorem dL_law_263 : decode cL_law 263 = .ok (.ireturn, 1) := by decide +kernel
theorem dL_law_264 : decode cL_law 264 = .ok (.iload 5, 2) := by decide +kernel
theorem dL_law_266 : decode cL_law 266 = .ok (.ifCond .ne 15, 3) := by decide +kernel
theorem dL_law_269 : decode cL_law 269 = .ok (.aload_n 3, 1) := by decide +kernel
theorem dL_law_270 : decode cL_law 270 = .ok (.iconst 0, 1) := by decide +kernel
theorem dL_law_271 : decode cL_law 271 = .ok (.laload, 1) := by decide +kernel
theorem dL_law_272 : decode cL_law 272 = .ok (.iload 6, 2) := by decide +kernel
theorem dL_law_274 : decode cL_law 274 = .ok (.i2l, 1) := by decide +kernel
theorem dL_law_275 : decode cL_law 275 = .ok (.lcmp, 1) := by decide +kernel
theorem dL_law_276 : decode cL_law 276 = .ok (.ifCond .eq 5, 3) := by decide +kernel
theorem dL_law_279 : decode cL_law 279 = .ok (.iconst 0, 1) := by decide +kernel
theorem dL_law_280 : decode cL_law 280 = .ok (.ireturn, 1) := by decide +kernel
theorem dL_law_281 : decode cL_law 281 = .ok (.goto 1094, 3) := by decide +kernel
theorem dL_law_284 : decode cL_law 284 = .ok (.aload_n 1, 1) := by decide +kernel
theorem dL_law_285 : decode cL_law 285 = .ok (.aload_n 0, 1) := by decide +kernel
theorem dL_law_286 : decode cL_law 286 = .ok (.iload 4, 2) := by decide +kernel
theorem dL_law_288 : decode cL_law 288 = .ok (.iconst 1, 1) := by decide +kernel
theorem dL_law_289 : decode cL_law 289 = .ok (.iadd, 1) := by decide +kernel
theorem dL_law_290 : decode cL_law 290 = .ok (.iaload, 1) := by decide +kernel
theorem dL_law_291 : decode cL_law 291 = .ok (.aload_n 0, 1) := by decide +kernel
theorem dL_law_292 : decode cL_law 292 = .ok (.iload 4, 2) := by decide +kernel
theorem dL_law_294 : decode cL_law 294 = .ok (.iconst 2, 1) := by decide +kernel
theorem dL_law_295 : decode cL_law 295 = .ok (.iadd, 1) := by decide +kernel
theorem dL_law_296 : decode cL_law 296 = .ok (.iaload, 1) := by decide +kernel
theorem dL_law_297 : decode cL_law 297 = .ok (.aload_n 0, 1) := by decide +kernel
theorem dL_law_298 : decode cL_law 298 = .ok (.iload 4, 2) := by decide +kernel
theorem dL_law_300 : decode cL_law 300 = .ok (.iconst 3, 1) := by decide +kernel
theorem dL_law_301 : decode cL_law 301 = .ok (.iadd, 1) := by decide +kernel
theorem dL_law_302 : decode cL_law 302 = .ok (.iaload, 1) := by decide +kernel
theorem dL_law_303 : decode cL_law 303 = .ok (.ifCond .eq 7, 3) := by decide +kernel
theorem dL_law_306 : decode cL_law 306 = .ok (.iconst 1, 1) := by decide +kernel
theorem dL_law_307 : decode cL_law 307 = .ok (.goto 4, 3) := by decide +kernel
theorem dL_law_310 : decode cL_law 310 = .ok (.iconst 0, 1) := by decide +kernel
theorem dL_law_311 : decode cL_law 311 = .ok (.aload_n 3, 1) := by decide +kernel
theorem dL_law_312 : decode cL_law 312 = .ok (.invokestatic 89, 3) := by decide +kernel
theorem dL_law_315 : decode cL_law 315 = .ok (.istore 5, 2) := by decide +kernel
theorem dL_law_317 : decode cL_law 317 = .ok (.aload_n 2, 1) := by decide +kernel
theorem dL_law_318 : decode cL_law 318 = .ok (.aload_n 0, 1) := by decide +kernel
theorem dL_law_319 : decode cL_law 319 = .ok (.iload 4, 2) := by decide +kernel
theorem dL_law_321 : decode cL_law 321 = .ok (.iconst 1, 1) := by decide +kernel
theorem dL_law_322 : decode cL_law 322 = .ok (.iadd, 1) := by decide +kernel
theorem dL_law_323 : decode cL_law 323 = .ok (.iaload, 1) := by decide +kernel
theorem dL_law_324 : decode cL_law 324 = .ok (.aload_n 0, 1) := by decide +kernel
theorem dL_law_325 : decode cL_law 325 = .ok (.iload 4, 2) := by decide +kernel
theorem dL_law_327 : decode cL_law 327 = .ok (.iconst 2, 1) := by decide +kernel
theorem dL_law_328 : decode cL_law 328 = .ok (.iadd, 1) := by decide +kernel
theorem dL_law_329 : decode cL_law 329 = .ok (.iaload, 1) := by decide +kernel
theorem dL_law_330 : decode cL_law 330 = .ok (.aload_n 0, 1) := by decide +kernel
theorem dL_law_331 : decode cL_law 331 = .ok (.iload 4, 2) := by decide +kernel
theorem dL_law_333 : decode cL_law 333 = .ok (.iconst 3, 1) := by decide +kernel
theorem dL_law_334 : decode cL_law 334 = .ok (.iadd, 1) := by decide +kernel
theorem dL_law_335 : decode cL_law 335 = .ok (.iaload, 1) := by decide +kernel
theorem dL_law_336 : decode cL_law 336 = .ok (.ifCond .eq 7, 3) := by decide +kernel
theorem dL_law_339 : decode cL_law 339 = .ok (.iconst 1, 1) := by decide +kernel
theorem dL_law_340 : decode cL_law 340 = .ok (.goto 4, 3) := by decide +kernel
theorem dL_law_343 : decode cL_law 343 = .ok (.iconst 0, 1) := by decide +kernel
theorem dL_law_344 : decode cL_law 344 = .ok (.invokevirtual 92, 3) := by decide +kernel
theorem dL_law_347 : decode cL_law 347 = .ok (.istore 6, 2) := by decide +kernel
theorem dL_law_349 : decode cL_law 349 = .ok (.aload_n 2, 1) := by decide +kernel
theorem dL_law_350 : decode cL_law 350 = .ok (.invokevirtual 83, 3) := by decide +kernel
theorem dL_law_353 : decode cL_law 353 = .ok (.iload 5, 2) := by decide +kernel
theorem dL_law_355 : decode cL_law 355 = .ok (.if_icmp .eq 5, 3) := by decide +kernel
theorem dL_law_358 : decode cL_law 358 = .ok (.iconst 0, 1) := by decide +kernel
theorem dL_law_359 : decode cL_law 359 = .ok (.ireturn, 1) := by decide +kernel
theorem dL_law_360 : decode cL_law 360 = .ok (.iload 5, 2) := by decide +kernel
theorem dL_law_362 : decode cL_law 362 = .ok (.ifCond .ne 15, 3) := by decide +kernel
theorem dL_law_365 : decode cL_law 365 = .ok (.aload_n 3, 1) := by decide +kernel
theorem dL_law_366 : decode cL_law 366 = .ok (.iconst 0, 1) := by decide +kernel
theorem dL_law_367 : decode cL_law 367 = .ok (.laload, 1) := by decide +kernel
theorem dL_law_368 : decode cL_law 368 = .ok (.iload 6, 2) := by decide +kernel
theorem dL_law_370 : decode cL_law 370 = .ok (.i2l, 1) := by decide +kernel
theorem dL_law_371 : decode cL_law 371 = .ok (.lcmp, 1) := by decide +kernel
theorem dL_law_372 : decode cL_law 372 = .ok (.ifCond .eq 5, 3) := by decide +kernel
theorem dL_law_375 : decode cL_law 375 = .ok (.iconst 0, 1) := by decide +kernel
theorem dL_law_376 : decode cL_law 376 = .ok (.ireturn, 1) := by decide +kernel
theorem dL_law_377 : decode cL_law 377 = .ok (.goto 998, 3) := by decide +kernel
theorem dL_law_380 : decode cL_law 380 = .ok (.aload_n 1, 1) := by decide +kernel
theorem dL_law_381 : decode cL_law 381 = .ok (.aload_n 0, 1) := by decide +kernel
theorem dL_law_382 : decode cL_law 382 = .ok (.iload 4, 2) := by decide +kernel
theorem dL_law_384 : decode cL_law 384 = .ok (.iconst 1, 1) := by decide +kernel
theorem dL_law_385 : decode cL_law 385 = .ok (.iadd, 1) := by decide +kernel
theorem dL_law_386 : decode cL_law 386 = .ok (.iaload, 1) := by decide +kernel
theorem dL_law_387 : decode cL_law 387 = .ok (.aload_n 0, 1) := by decide +kernel
theorem dL_law_388 : decode cL_law 388 = .ok (.iload 4, 2) := by decide +kernel
theorem dL_law_390 : decode cL_law 390 = .ok (.iconst 2, 1) := by decide +kernel
theorem dL_law_391 : decode cL_law 391 = .ok (.iadd, 1) := by decide +kernel
theorem dL_law_392 : decode cL_law 392 = .ok (.iaload, 1) := by decide +kernel
theorem dL_law_393 : decode cL_law 393 = .ok (.aload_n 3, 1) := by decide +kernel
theorem dL_law_394 : decode cL_law 394 = .ok (.invokestatic 93, 3) := by decide +kernel
theorem dL_law_397 : decode cL_law 397 = .ok (.istore 5, 2) := by decide +kernel
theorem dL_law_399 : decode cL_law 399 = .ok (.aload_n 2, 1) := by decide +kernel
theorem dL_law_400 : decode cL_law 400 = .ok (.aload_n 0, 1) := by decide +kernel
theorem dL_law_401 : decode cL_law 401 = .ok (.iload 4, 2) := by decide +kernel
theorem dL_law_403 : decode cL_law 403 = .ok (.iconst 1, 1) := by decide +kernel
theorem dL_law_404 : decode cL_law 404 = .ok (.iadd, 1) := by decide +kernel
theorem dL_law_405 : decode cL_law 405 = .ok (.iaload, 1) := by decide +kernel
theorem dL_law_406 : decode cL_law 406 = .ok (.aload_n 0, 1) := by decide +kernel
theorem dL_law_407 : decode cL_law 407 = .ok (.iload 4, 2) := by decide +kernel
theorem dL_law_409 : decode cL_law 409 = .ok (.iconst 2, 1) := by decide +kernel
theorem dL_law_410 : decode cL_law 410 = .ok (.iadd, 1) := by decide +kernel
theorem dL_law_411 : decode cL_law 411 = .ok (.iaload, 1) := by decide +kernel
theorem dL_law_412 : decode cL_law 412 = .ok (.invokevirtual 95, 3) := by decide +kernel
theorem dL_law_415 : decode cL_law 415 = .ok (.istore 6, 2) := by decide +kernel
theorem dL_law_417 : decode cL_law 417 = .ok (.aload_n 2, 1) := by decide +kernel
theorem dL_law_418 : decode cL_law 418 = .ok (.invokevirtual 83, 3) := by decide +kernel
theorem dL_law_421 : decode cL_law 421 = .ok (.iload 5, 2) := by decide +kernel
theorem dL_law_423 : decode cL_law 423 = .ok (.if_icmp .eq 5, 3) := by decide +kernel
theorem dL_law_426 : decode cL_law 426 = .ok (.iconst 0, 1) := by decide +kernel
theorem dL_law_427 : decode cL_law 427 = .ok (.ireturn, 1) := by decide +kernel
theorem dL_law_428 : decode cL_law 428 = .ok (.iload 5, 2) := by decide +kernel
theorem dL_law_430 : decode cL_law 430 = .ok (.ifCond .ne 15, 3) := by decide +kernel
theorem dL_law_433 : decode cL_law 433 = .ok (.aload_n 3, 1) := by decide +kernel
theorem dL_law_434 : decode cL_law 434 = .ok (.iconst 0, 1) := by decide +kernel
theorem dL_law_435 : decode cL_law 435 = .ok (.laload, 1) := by decide +kernel
theorem dL_law_436 : decode cL_law 436 = .ok (.iload 6, 2) := by decide +kernel
theorem dL_law_438 : decode cL_law 438 = .ok (.i2l, 1) := by decide +kernel
theorem dL_law_439 : decode cL_law 439 = .ok (.lcmp, 1) := by decide +kernel
theorem dL_law_440 : decode cL_law 440 = .ok (.ifCond .eq 5, 3) := by decide +kernel
theorem dL_law_443 : decode cL_law 443 = .ok (.iconst 0, 1) := by decide +kernel
theorem dL_law_444 : decode cL_law 444 = .ok (.ireturn, 1) := by decide +kernel
theorem dL_law_445 : decode cL_law 445 = .ok (.goto 930, 3) := by decide +kernel
theorem dL_law_448 : decode cL_law 448 = .ok (.aload_n 1, 1) := by decide +kernel
theorem dL_law_449 : decode cL_law 449 = .ok (.aload_n 0, 1) := by decide +kernel
theorem dL_law_450 : decode cL_law 450 = .ok (.iload 4, 2) := by decide +kernel
theorem dL_law_452 : decode cL_law 452 = .ok (.iconst 1, 1) := by decide +kernel
theorem dL_law_453 : decode cL_law 453 = .ok (.iadd, 1) := by decide +kernel
theorem dL_law_454 : decode cL_law 454 = .ok (.iaload, 1) := by decide +kernel
theorem dL_law_455 : decode cL_law 455 = .ok (.aload_n 3, 1) := by decide +kernel
theorem dL_law_456 : decode cL_law 456 = .ok (.invokestatic 96, 3) := by decide +kernel
theorem dL_law_459 : decode cL_law 459 = .ok (.istore 5, 2) := by decide +kernel
theorem dL_law_461 : decode cL_law 461 = .ok (.aload_n 2, 1) := by decide +kernel
theorem dL_law_462 : decode cL_law 462 = .ok (.aload_n 0, 1) := by decide +kernel
theorem dL_law_463 : decode cL_law 463 = .ok (.iload 4, 2) := by decide +kernel
theorem dL_law_465 : decode cL_law 465 = .ok (.iconst 1, 1) := by decide +kernel
theorem dL_law_466 : decode cL_law 466 = .ok (.iadd, 1) := by decide +kernel
theorem dL_law_467 : decode cL_law 467 = .ok (.iaload, 1) := by decide +kernel
theorem dL_law_468 : decode cL_law 468 = .ok (.invokevirtual 99, 3) := by decide +kernel
theorem dL_law_471 : decode cL_law 471 = .ok (.istore 6, 2) := by decide +kernel
theorem dL_law_473 : decode cL_law 473 = .ok (.aload_n 2, 1) := by decide +kernel
theorem dL_law_474 : decode cL_law 474 = .ok (.invokevirtual 83, 3) := by decide +kernel
theorem dL_law_477 : decode cL_law 477 = .ok (.iload 5, 2) := by decide +kernel
theorem dL_law_479 : decode cL_law 479 = .ok (.if_icmp .eq 5, 3) := by decide +kernel
theorem dL_law_482 : decode cL_law 482 = .ok (.iconst 0, 1) := by decide +kernel
theorem dL_law_483 : decode cL_law 483 = .ok (.ireturn, 1) := by decide +kernel
theorem dL_law_484 : decode cL_law 484 = .ok (.iload 5, 2) := by decide +kernel
theorem dL_law_486 : decode cL_law 486 = .ok (.ifCond .ne 15, 3) := by decide +kernel
theorem dL_law_489 : decode cL_law 489 = .ok (.aload_n 3, 1) := by decide +kernel
theorem dL_law_490 : decode cL_law 490 = .ok (.iconst 0, 1) := by decide +kernel
theorem dL_law_491 : decode cL_law 491 = .ok (.laload, 1) := by decide +kernel
theorem dL_law_492 : decode cL_law 492 = .ok (.iload 6, 2) := by decide +kernel
theorem dL_law_494 : decode cL_law 494 = .ok (.i2l, 1) := by decide +kernel
theorem dL_law_495 : decode cL_law 495 = .ok (.lcmp, 1) := by decide +kernel
theorem dL_law_496 : decode cL_law 496 = .ok (.ifCond .eq 5, 3) := by decide +kernel
theorem dL_law_499 : decode cL_law 499 = .ok (.iconst 0, 1) := by decide +kernel
theorem dL_law_500 : decode cL_law 500 = .ok (.ireturn, 1) := by decide +kernel
theorem dL_law_501 : decode cL_law 501 = .ok (.goto 874, 3) := by decide +kernel
theorem dL_law_504 : decode cL_law 504 = .ok (.aload_n 1, 1) := by decide +kernel
theorem dL_law_505 : decode cL_law 505 = .ok (.aload_n 0, 1) := by decide +kernel
theorem dL_law_506 : decode cL_law 506 = .ok (.iload 4, 2) := by decide +kernel
theorem dL_law_508 : decode cL_law 508 = .ok (.iconst 1, 1) := by decide +kernel
theorem dL_law_509 : decode cL_law 509 = .ok (.iadd, 1) := by decide +kernel
theorem dL_law_510 : decode cL_law 510 = .ok (.iaload, 1) := by decide +kernel
theorem dL_law_511 : decode cL_law 511 = .ok (.aload_n 3, 1) := by decide +kernel
theorem dL_law_512 : decode cL_law 512 = .ok (.invokestatic 100, 3) := by decide +kernel
theorem dL_law_515 : decode cL_law 515 = .ok (.istore 5, 2) := by decide +kernel
theorem dL_law_517 : decode cL_law 517 = .ok (.aload_n 2, 1) := by decide +kernel
theorem dL_law_518 : decode cL_law 518 = .ok (.aload_n 0, 1) := by decide +kernel
theorem dL_law_519 : decode cL_law 519 = .ok (.iload 4, 2) := by decide +kernel
theorem dL_law_521 : decode cL_law 521 = .ok (.iconst 1, 1) := by decide +kernel
theorem dL_law_522 : decode cL_law 522 = .ok (.iadd, 1) := by decide +kernel
theorem dL_law_523 : decode cL_law 523 = .ok (.iaload, 1) := by decide +kernel
theorem dL_law_524 : decode cL_law 524 = .ok (.invokevirtual 102, 3) := by decide +kernel
theorem dL_law_527 : decode cL_law 527 = .ok (.istore 6, 2) := by decide +kernel
theorem dL_law_529 : decode cL_law 529 = .ok (.aload_n 2, 1) := by decide +kernel
theorem dL_law_530 : decode cL_law 530 = .ok (.invokevirtual 83, 3) := by decide +kernel
theorem dL_law_533 : decode cL_law 533 = .ok (.iload 5, 2) := by decide +kernel
theorem dL_law_535 : decode cL_law 535 = .ok (.if_icmp .eq 5, 3) := by decide +kernel
theorem dL_law_538 : decode cL_law 538 = .ok (.iconst 0, 1) := by decide +kernel
theorem dL_law_539 : decode cL_law 539 = .ok (.ireturn, 1) := by decide +kernel
theorem dL_law_540 : decode cL_law 540 = .ok (.iload 5, 2) := by decide +kernel
theorem dL_law_542 : decode cL_law 542 = .ok (.ifCond .ne 15, 3) := by decide +kernel
theorem dL_law_545 : decode cL_law 545 = .ok (.aload_n 3, 1) := by decide +kernel
theorem dL_law_546 : decode cL_law 546 = .ok (.iconst 0, 1) := by decide +kernel
theorem dL_law_547 : decode cL_law 547 = .ok (.laload, 1) := by decide +kernel
theorem dL_law_548 : decode cL_law 548 = .ok (.iload 6, 2) := by decide +kernel
theorem dL_law_550 : decode cL_law 550 = .ok (.i2l, 1) := by decide +kernel
theorem dL_law_551 : decode cL_law 551 = .ok (.lcmp, 1) := by decide +kernel
theorem dL_law_552 : decode cL_law 552 = .ok (.ifCond .eq 5, 3) := by decide +kernel
theorem dL_law_555 : decode cL_law 555 = .ok (.iconst 0, 1) := by decide +kernel
theorem dL_law_556 : decode cL_law 556 = .ok (.ireturn, 1) := by decide +kernel
theorem dL_law_557 : decode cL_law 557 = .ok (.goto 818, 3) := by decide +kernel
theorem dL_law_560 : decode cL_law 560 = .ok (.aload_n 1, 1) := by decide +kernel
theorem dL_law_561 : decode cL_law 561 = .ok (.invokevirtual 103, 3) := by decide +kernel
theorem dL_law_564 : decode cL_law 564 = .ok (.aload_n 2, 1) := by decide +kernel
theorem dL_law_565 : decode cL_law 565 = .ok (.invokevirtual 106, 3) := by decide +kernel
theorem dL_law_568 : decode cL_law 568 = .ok (.if_icmp .eq 807, 3) := by decide +kernel
theorem dL_law_571 : decode cL_law 571 = .ok (.iconst 0, 1) := by decide +kernel
theorem dL_law_572 : decode cL_law 572 = .ok (.ireturn, 1) := by decide +kernel
theorem dL_law_573 : decode cL_law 573 = .ok (.aload_n 1, 1) := by decide +kernel
theorem dL_law_574 : decode cL_law 574 = .ok (.invokevirtual 107, 3) := by decide +kernel
theorem dL_law_577 : decode cL_law 577 = .ok (.aload_n 2, 1) := by decide +kernel
theorem dL_law_578 : decode cL_law 578 = .ok (.invokevirtual 110, 3) := by decide +kernel
theorem dL_law_581 : decode cL_law 581 = .ok (.if_icmp .eq 794, 3) := by decide +kernel
theorem dL_law_584 : decode cL_law 584 = .ok (.iconst 0, 1) := by decide +kernel
theorem dL_law_585 : decode cL_law 585 = .ok (.ireturn, 1) := by decide +kernel
theorem dL_law_586 : decode cL_law 586 = .ok (.aload_n 1, 1) := by decide +kernel
theorem dL_law_587 : decode cL_law 587 = .ok (.aload_n 3, 1) := by decide +kernel
theorem dL_law_588 : decode cL_law 588 = .ok (.invokestatic 111, 3) := by decide +kernel
theorem dL_law_591 : decode cL_law 591 = .ok (.istore 5, 2) := by decide +kernel
theorem dL_law_593 : decode cL_law 593 = .ok (.aload_n 2, 1) := by decide +kernel
theorem dL_law_594 : decode cL_law 594 = .ok (.invokevirtual 114, 3) := by decide +kernel
theorem dL_law_597 : decode cL_law 597 = .ok (.istore 6, 2) := by decide +kernel
theorem dL_law_599 : decode cL_law 599 = .ok (.aload_n 2, 1) := by decide +kernel
theorem dL_law_600 : decode cL_law 600 = .ok (.invokevirtual 83, 3) := by decide +kernel
theorem dL_law_603 : decode cL_law 603 = .ok (.iload 5, 2) := by decide +kernel
theorem dL_law_605 : decode cL_law 605 = .ok (.if_icmp .eq 5, 3) := by decide +kernel
theorem dL_law_608 : decode cL_law 608 = .ok (.iconst 0, 1) := by decide +kernel
theorem dL_law_609 : decode cL_law 609 = .ok (.ireturn, 1) := by decide +kernel
theorem dL_law_610 : decode cL_law 610 = .ok (.iload 5, 2) := by decide +kernel
theorem dL_law_612 : decode cL_law 612 = .ok (.ifCond .ne 15, 3) := by decide +kernel
theorem dL_law_615 : decode cL_law 615 = .ok (.aload_n 3, 1) := by decide +kernel
theorem dL_law_616 : decode cL_law 616 = .ok (.iconst 0, 1) := by decide +kernel
theorem dL_law_617 : decode cL_law 617 = .ok (.laload, 1) := by decide +kernel
theorem dL_law_618 : decode cL_law 618 = .ok (.iload 6, 2) := by decide +kernel
theorem dL_law_620 : decode cL_law 620 = .ok (.i2l, 1) := by decide +kernel
theorem dL_law_621 : decode cL_law 621 = .ok (.lcmp, 1) := by decide +kernel
theorem dL_law_622 : decode cL_law 622 = .ok (.ifCond .eq 5, 3) := by decide +kernel
theorem dL_law_625 : decode cL_law 625 = .ok (.iconst 0, 1) := by decide +kernel
theorem dL_law_626 : decode cL_law 626 = .ok (.ireturn, 1) := by decide +kernel
theorem dL_law_627 : decode cL_law 627 = .ok (.goto 748, 3) := by decide +kernel
theorem dL_law_630 : decode cL_law 630 = .ok (.aload_n 1, 1) := by decide +kernel
theorem dL_law_631 : decode cL_law 631 = .ok (.aload_n 0, 1) := by decide +kernel
theorem dL_law_632 : decode cL_law 632 = .ok (.iload 4, 2) := by decide +kernel
theorem dL_law_634 : decode cL_law 634 = .ok (.iconst 1, 1) := by decide +kernel
theorem dL_law_635 : decode cL_law 635 = .ok (.iadd, 1) := by decide +kernel
theorem dL_law_636 : decode cL_law 636 = .ok (.iaload, 1) := by decide +kernel
theorem dL_law_637 : decode cL_law 637 = .ok (.aload_n 3, 1) := by decide +kernel
theorem dL_law_638 : decode cL_law 638 = .ok (.invokestatic 115, 3) := by decide +kernel
theorem dL_law_641 : decode cL_law 641 = .ok (.istore 5, 2) := by decide +kernel
theorem dL_law_643 : decode cL_law 643 = .ok (.aload_n 2, 1) := by decide +kernel
theorem dL_law_644 : decode cL_law 644 = .ok (.aload_n 0, 1) := by decide +kernel
theorem dL_law_645 : decode cL_law 645 = .ok (.iload 4, 2) := by decide +kernel
theorem dL_law_647 : decode cL_law 647 = .ok (.iconst 1, 1) := by decide +kernel
theorem dL_law_648 : decode cL_law 648 = .ok (.iadd, 1) := by decide +kernel
theorem dL_law_649 : decode cL_law 649 = .ok (.iaload, 1) := by decide +kernel
theorem dL_law_650 : decode cL_law 650 = .ok (.invokevirtual 117, 3) := by decide +kernel
theorem dL_law_653 : decode cL_law 653 = .ok (.istore 6, 2) := by decide +kernel
theorem dL_law_655 : decode cL_law 655 = .ok (.aload_n 2, 1) := by decide +kernel
theorem dL_law_656 : decode cL_law 656 = .ok (.invokevirtual 83, 3) := by decide +kernel
theorem dL_law_659 : decode cL_law 659 = .ok (.iload 5, 2) := by decide +kernel
theorem dL_law_661 : decode cL_law 661 = .ok (.if_icmp .eq 5, 3) := by decide +kernel
theorem dL_law_664 : decode cL_law 664 = .ok (.iconst 0, 1) := by decide +kernel
theorem dL_law_665 : decode cL_law 665 = .ok (.ireturn, 1) := by decide +kernel
theorem dL_law_666 : decode cL_law 666 = .ok (.iload 5, 2) := by decide +kernel
theorem dL_law_668 : decode cL_law 668 = .ok (.ifCond .ne 15, 3) := by decide +kernel
theorem dL_law_671 : decode cL_law 671 = .ok (.aload_n 3, 1) := by decide +kernel
theorem dL_law_672 : decode cL_law 672 = .ok (.iconst 0, 1) := by decide +kernel
theorem dL_law_673 : decode cL_law 673 = .ok (.laload, 1) := by decide +kernel
theorem dL_law_674 : decode cL_law 674 = .ok (.iload 6, 2) := by decide +kernel
theorem dL_law_676 : decode cL_law 676 = .ok (.i2l, 1) := by decide +kernel
theorem dL_law_677 : decode cL_law 677 = .ok (.lcmp, 1) := by decide +kernel
theorem dL_law_678 : decode cL_law 678 = .ok (.ifCond .eq 5, 3) := by decide +kernel
theorem dL_law_681 : decode cL_law 681 = .ok (.iconst 0, 1) := by decide +kernel
theorem dL_law_682 : decode cL_law 682 = .ok (.ireturn, 1) := by decide +kernel
theorem dL_law_683 : decode cL_law 683 = .ok (.goto 692, 3) := by decide +kernel
theorem dL_law_686 : decode cL_law 686 = .ok (.aload_n 1, 1) := by decide +kernel
theorem dL_law_687 : decode cL_law 687 = .ok (.aload_n 0, 1) := by decide +kernel
theorem dL_law_688 : decode cL_law 688 = .ok (.iload 4, 2) := by decide +kernel
theorem dL_law_690 : decode cL_law 690 = .ok (.iconst 1, 1) := by decide +kernel
theorem dL_law_691 : decode cL_law 691 = .ok (.iadd, 1) := by decide +kernel
theorem dL_law_692 : decode cL_law 692 = .ok (.iaload, 1) := by decide +kernel
theorem dL_law_693 : decode cL_law 693 = .ok (.aload_n 3, 1) := by decide +kernel
theorem dL_law_694 : decode cL_law 694 = .ok (.invokestatic 118, 3) := by decide +kernel
theorem dL_law_697 : decode cL_law 697 = .ok (.istore 5, 2) := by decide +kernel
theorem dL_law_699 : decode cL_law 699 = .ok (.aload_n 2, 1) := by decide +kernel
theorem dL_law_700 : decode cL_law 700 = .ok (.aload_n 0, 1) := by decide +kernel
theorem dL_law_701 : decode cL_law 701 = .ok (.iload 4, 2) := by decide +kernel
theorem dL_law_703 : decode cL_law 703 = .ok (.iconst 1, 1) := by decide +kernel
theorem dL_law_704 : decode cL_law 704 = .ok (.iadd, 1) := by decide +kernel
theorem dL_law_705 : decode cL_law 705 = .ok (.iaload, 1) := by decide +kernel
theorem dL_law_706 : decode cL_law 706 = .ok (.invokevirtual 120, 3) := by decide +kernel
theorem dL_law_709 : decode cL_law 709 = .ok (.istore 6, 2) := by decide +kernel
theorem dL_law_711 : decode cL_law 711 = .ok (.aload_n 2, 1) := by decide +kernel
theorem dL_law_712 : decode cL_law 712 = .ok (.invokevirtual 83, 3) := by decide +kernel
theorem dL_law_715 : decode cL_law 715 = .ok (.iload 5, 2) := by decide +kernel
theorem dL_law_717 : decode cL_law 717 = .ok (.if_icmp .eq 5, 3) := by decide +kernel
theorem dL_law_720 : decode cL_law 720 = .ok (.iconst 0, 1) := by decide +kernel
theorem dL_law_721 : decode cL_law 721 = .ok (.ireturn, 1) := by decide +kernel
theorem dL_law_722 : decode cL_law 722 = .ok (.iload 5, 2) := by decide +kernel
theorem dL_law_724 : decode cL_law 724 = .ok (.ifCond .ne 15, 3) := by decide +kernel
theorem dL_law_727 : decode cL_law 727 = .ok (.aload_n 3, 1) := by decide +kernel
theorem dL_law_728 : decode cL_law 728 = .ok (.iconst 0, 1) := by decide +kernel
theorem dL_law_729 : decode cL_law 729 = .ok (.laload, 1) := by decide +kernel
theorem dL_law_730 : decode cL_law 730 = .ok (.iload 6, 2) := by decide +kernel
theorem dL_law_732 : decode cL_law 732 = .ok (.i2l, 1) := by decide +kernel
theorem dL_law_733 : decode cL_law 733 = .ok (.lcmp, 1) := by decide +kernel
theorem dL_law_734 : decode cL_law 734 = .ok (.ifCond .eq 5, 3) := by decide +kernel
theorem dL_law_737 : decode cL_law 737 = .ok (.iconst 0, 1) := by decide +kernel
theorem dL_law_738 : decode cL_law 738 = .ok (.ireturn, 1) := by decide +kernel
theorem dL_law_739 : decode cL_law 739 = .ok (.goto 636, 3) := by decide +kernel
theorem dL_law_742 : decode cL_law 742 = .ok (.aload_n 1, 1) := by decide +kernel
theorem dL_law_743 : decode cL_law 743 = .ok (.aload_n 3, 1) := by decide +kernel
theorem dL_law_744 : decode cL_law 744 = .ok (.invokestatic 121, 3) := by decide +kernel
theorem dL_law_747 : decode cL_law 747 = .ok (.istore 5, 2) := by decide +kernel
theorem dL_law_749 : decode cL_law 749 = .ok (.aload_n 2, 1) := by decide +kernel
theorem dL_law_750 : decode cL_law 750 = .ok (.invokevirtual 123, 3) := by decide +kernel
theorem dL_law_753 : decode cL_law 753 = .ok (.istore 6, 2) := by decide +kernel
theorem dL_law_755 : decode cL_law 755 = .ok (.aload_n 2, 1) := by decide +kernel
theorem dL_law_756 : decode cL_law 756 = .ok (.invokevirtual 83, 3) := by decide +kernel
theorem dL_law_759 : decode cL_law 759 = .ok (.iload 5, 2) := by decide +kernel
theorem dL_law_761 : decode cL_law 761 = .ok (.if_icmp .eq 5, 3) := by decide +kernel
theorem dL_law_764 : decode cL_law 764 = .ok (.iconst 0, 1) := by decide +kernel
theorem dL_law_765 : decode cL_law 765 = .ok (.ireturn, 1) := by decide +kernel
theorem dL_law_766 : decode cL_law 766 = .ok (.iload 5, 2) := by decide +kernel
theorem dL_law_768 : decode cL_law 768 = .ok (.ifCond .ne 15, 3) := by decide +kernel
theorem dL_law_771 : decode cL_law 771 = .ok (.aload_n 3, 1) := by decide +kernel
theorem dL_law_772 : decode cL_law 772 = .ok (.iconst 0, 1) := by decide +kernel
theorem dL_law_773 : decode cL_law 773 = .ok (.laload, 1) := by decide +kernel
theorem dL_law_774 : decode cL_law 774 = .ok (.iload 6, 2) := by decide +kernel
theorem dL_law_776 : decode cL_law 776 = .ok (.i2l, 1) := by decide +kernel
theorem dL_law_777 : decode cL_law 777 = .ok (.lcmp, 1) := by decide +kernel
theorem dL_law_778 : decode cL_law 778 = .ok (.ifCond .eq 5, 3) := by decide +kernel
theorem dL_law_781 : decode cL_law 781 = .ok (.iconst 0, 1) := by decide +kernel
theorem dL_law_782 : decode cL_law 782 = .ok (.ireturn, 1) := by decide +kernel
theorem dL_law_783 : decode cL_law 783 = .ok (.goto 592, 3) := by decide +kernel
theorem dL_law_786 : decode cL_law 786 = .ok (.aload_n 1, 1) := by decide +kernel
theorem dL_law_787 : decode cL_law 787 = .ok (.aload_n 0, 1) := by decide +kernel
theorem dL_law_788 : decode cL_law 788 = .ok (.iload 4, 2) := by decide +kernel
theorem dL_law_790 : decode cL_law 790 = .ok (.iconst 1, 1) := by decide +kernel
theorem dL_law_791 : decode cL_law 791 = .ok (.iadd, 1) := by decide +kernel
theorem dL_law_792 : decode cL_law 792 = .ok (.iaload, 1) := by decide +kernel
theorem dL_law_793 : decode cL_law 793 = .ok (.aload_n 0, 1) := by decide +kernel
theorem dL_law_794 : decode cL_law 794 = .ok (.iload 4, 2) := by decide +kernel
theorem dL_law_796 : decode cL_law 796 = .ok (.iconst 2, 1) := by decide +kernel
theorem dL_law_797 : decode cL_law 797 = .ok (.iadd, 1) := by decide +kernel
theorem dL_law_798 : decode cL_law 798 = .ok (.iaload, 1) := by decide +kernel
theorem dL_law_799 : decode cL_law 799 = .ok (.aload_n 3, 1) := by decide +kernel
theorem dL_law_800 : decode cL_law 800 = .ok (.invokestatic 124, 3) := by decide +kernel
theorem dL_law_803 : decode cL_law 803 = .ok (.istore 5, 2) := by decide +kernel
theorem dL_law_805 : decode cL_law 805 = .ok (.aload_n 2, 1) := by decide +kernel
theorem dL_law_806 : decode cL_law 806 = .ok (.aload_n 0, 1) := by decide +kernel
theorem dL_law_807 : decode cL_law 807 = .ok (.iload 4, 2) := by decide +kernel
theorem dL_law_809 : decode cL_law 809 = .ok (.iconst 1, 1) := by decide +kernel
theorem dL_law_810 : decode cL_law 810 = .ok (.iadd, 1) := by decide +kernel
theorem dL_law_811 : decode cL_law 811 = .ok (.iaload, 1) := by decide +kernel
theorem dL_law_812 : decode cL_law 812 = .ok (.aload_n 0, 1) := by decide +kernel
theorem dL_law_813 : decode cL_law 813 = .ok (.iload 4, 2) := by decide +kernel
theorem dL_law_815 : decode cL_law 815 = .ok (.iconst 2, 1) := by decide +kernel
theorem dL_law_816 : decode cL_law 816 = .ok (.iadd, 1) := by decide +kernel
theorem dL_law_817 : decode cL_law 817 = .ok (.iaload, 1) := by decide +kernel
theorem dL_law_818 : decode cL_law 818 = .ok (.invokevirtual 126, 3) := by decide +kernel
theorem dL_law_821 : decode cL_law 821 = .ok (.istore 6, 2) := by decide +kernel
theorem dL_law_823 : decode cL_law 823 = .ok (.aload_n 2, 1) := by decide +kernel
theorem dL_law_824 : decode cL_law 824 = .ok (.invokevirtual 83, 3) := by decide +kernel
theorem dL_law_827 : decode cL_law 827 = .ok (.iload 5, 2) := by decide +kernel
theorem dL_law_829 : decode cL_law 829 = .ok (.if_icmp .eq 5, 3) := by decide +kernel
theorem dL_law_832 : decode cL_law 832 = .ok (.iconst 0, 1) := by decide +kernel
theorem dL_law_833 : decode cL_law 833 = .ok (.ireturn, 1) := by decide +kernel
theorem dL_law_834 : decode cL_law 834 = .ok (.iload 5, 2) := by decide +kernel
theorem dL_law_836 : decode cL_law 836 = .ok (.ifCond .ne 15, 3) := by decide +kernel
theorem dL_law_839 : decode cL_law 839 = .ok (.aload_n 3, 1) := by decide +kernel
theorem dL_law_840 : decode cL_law 840 = .ok (.iconst 0, 1) := by decide +kernel
theorem dL_law_841 : decode cL_law 841 = .ok (.laload, 1) := by decide +kernel
theorem dL_law_842 : decode cL_law 842 = .ok (.iload 6, 2) := by decide +kernel
theorem dL_law_844 : decode cL_law 844 = .ok (.i2l, 1) := by decide +kernel
theorem dL_law_845 : decode cL_law 845 = .ok (.lcmp, 1) := by decide +kernel
theorem dL_law_846 : decode cL_law 846 = .ok (.ifCond .eq 5, 3) := by decide +kernel
theorem dL_law_849 : decode cL_law 849 = .ok (.iconst 0, 1) := by decide +kernel
theorem dL_law_850 : decode cL_law 850 = .ok (.ireturn, 1) := by decide +kernel
theorem dL_law_851 : decode cL_law 851 = .ok (.goto 524, 3) := by decide +kernel
theorem dL_law_854 : decode cL_law 854 = .ok (.aload_n 1, 1) := by decide +kernel
theorem dL_law_855 : decode cL_law 855 = .ok (.aload_n 0, 1) := by decide +kernel
theorem dL_law_856 : decode cL_law 856 = .ok (.iload 4, 2) := by decide +kernel
theorem dL_law_858 : decode cL_law 858 = .ok (.iconst 1, 1) := by decide +kernel
theorem dL_law_859 : decode cL_law 859 = .ok (.iadd, 1) := by decide +kernel
theorem dL_law_860 : decode cL_law 860 = .ok (.iaload, 1) := by decide +kernel
theorem dL_law_861 : decode cL_law 861 = .ok (.aload_n 0, 1) := by decide +kernel
theorem dL_law_862 : decode cL_law 862 = .ok (.iload 4, 2) := by decide +kernel
theorem dL_law_864 : decode cL_law 864 = .ok (.iconst 2, 1) := by decide +kernel
theorem dL_law_865 : decode cL_law 865 = .ok (.iadd, 1) := by decide +kernel
theorem dL_law_866 : decode cL_law 866 = .ok (.iaload, 1) := by decide +kernel
theorem dL_law_867 : decode cL_law 867 = .ok (.aload_n 3, 1) := by decide +kernel
theorem dL_law_868 : decode cL_law 868 = .ok (.invokestatic 127, 3) := by decide +kernel
theorem dL_law_871 : decode cL_law 871 = .ok (.istore 5, 2) := by decide +kernel
theorem dL_law_873 : decode cL_law 873 = .ok (.aload_n 2, 1) := by decide +kernel
theorem dL_law_874 : decode cL_law 874 = .ok (.aload_n 0, 1) := by decide +kernel
theorem dL_law_875 : decode cL_law 875 = .ok (.iload 4, 2) := by decide +kernel
theorem dL_law_877 : decode cL_law 877 = .ok (.iconst 1, 1) := by decide +kernel
theorem dL_law_878 : decode cL_law 878 = .ok (.iadd, 1) := by decide +kernel
theorem dL_law_879 : decode cL_law 879 = .ok (.iaload, 1) := by decide +kernel
theorem dL_law_880 : decode cL_law 880 = .ok (.aload_n 0, 1) := by decide +kernel
theorem dL_law_881 : decode cL_law 881 = .ok (.iload 4, 2) := by decide +kernel
theorem dL_law_883 : decode cL_law 883 = .ok (.iconst 2, 1) := by decide +kernel
theorem dL_law_884 : decode cL_law 884 = .ok (.iadd, 1) := by decide +kernel
theorem dL_law_885 : decode cL_law 885 = .ok (.iaload, 1) := by decide +kernel
theorem dL_law_886 : decode cL_law 886 = .ok (.invokevirtual 129, 3) := by decide +kernel
theorem dL_law_889 : decode cL_law 889 = .ok (.istore 6, 2) := by decide +kernel
theorem dL_law_891 : decode cL_law 891 = .ok (.aload_n 2, 1) := by decide +kernel
theorem dL_law_892 : decode cL_law 892 = .ok (.invokevirtual 83, 3) := by decide +kernel
theorem dL_law_895 : decode cL_law 895 = .ok (.iload 5, 2) := by decide +kernel
theorem dL_law_897 : decode cL_law 897 = .ok (.if_icmp .eq 5, 3) := by decide +kernel
theorem dL_law_900 : decode cL_law 900 = .ok (.iconst 0, 1) := by decide +kernel
theorem dL_law_901 : decode cL_law 901 = .ok (.ireturn, 1) := by decide +kernel
theorem dL_law_902 : decode cL_law 902 = .ok (.iload 5, 2) := by decide +kernel
theorem dL_law_904 : decode cL_law 904 = .ok (.ifCond .ne 15, 3) := by decide +kernel
theorem dL_law_907 : decode cL_law 907 = .ok (.aload_n 3, 1) := by decide +kernel
theorem dL_law_908 : decode cL_law 908 = .ok (.iconst 0, 1) := by decide +kernel
theorem dL_law_909 : decode cL_law 909 = .ok (.laload, 1) := by decide +kernel
theorem dL_law_910 : decode cL_law 910 = .ok (.iload 6, 2) := by decide +kernel
theorem dL_law_912 : decode cL_law 912 = .ok (.i2l, 1) := by decide +kernel
theorem dL_law_913 : decode cL_law 913 = .ok (.lcmp, 1) := by decide +kernel
theorem dL_law_914 : decode cL_law 914 = .ok (.ifCond .eq 5, 3) := by decide +kernel
theorem dL_law_917 : decode cL_law 917 = .ok (.iconst 0, 1) := by decide +kernel
theorem dL_law_918 : decode cL_law 918 = .ok (.ireturn, 1) := by decide +kernel
theorem dL_law_919 : decode cL_law 919 = .ok (.goto 456, 3) := by decide +kernel
theorem dL_law_922 : decode cL_law 922 = .ok (.aload_n 1, 1) := by decide +kernel
theorem dL_law_923 : decode cL_law 923 = .ok (.aload_n 0, 1) := by decide +kernel
theorem dL_law_924 : decode cL_law 924 = .ok (.iload 4, 2) := by decide +kernel
theorem dL_law_926 : decode cL_law 926 = .ok (.iconst 1, 1) := by decide +kernel
theorem dL_law_927 : decode cL_law 927 = .ok (.iadd, 1) := by decide +kernel
theorem dL_law_928 : decode cL_law 928 = .ok (.iaload, 1) := by decide +kernel
theorem dL_law_929 : decode cL_law 929 = .ok (.aload_n 3, 1) := by decide +kernel
theorem dL_law_930 : decode cL_law 930 = .ok (.invokestatic 130, 3) := by decide +kernel
theorem dL_law_933 : decode cL_law 933 = .ok (.istore 5, 2) := by decide +kernel
theorem dL_law_935 : decode cL_law 935 = .ok (.aload_n 2, 1) := by decide +kernel
theorem dL_law_936 : decode cL_law 936 = .ok (.aload_n 0, 1) := by decide +kernel
theorem dL_law_937 : decode cL_law 937 = .ok (.iload 4, 2) := by decide +kernel
theorem dL_law_939 : decode cL_law 939 = .ok (.iconst 1, 1) := by decide +kernel
theorem dL_law_940 : decode cL_law 940 = .ok (.iadd, 1) := by decide +kernel
theorem dL_law_941 : decode cL_law 941 = .ok (.iaload, 1) := by decide +kernel
theorem dL_law_942 : decode cL_law 942 = .ok (.invokevirtual 132, 3) := by decide +kernel
theorem dL_law_945 : decode cL_law 945 = .ok (.istore 6, 2) := by decide +kernel
theorem dL_law_947 : decode cL_law 947 = .ok (.aload_n 2, 1) := by decide +kernel
theorem dL_law_948 : decode cL_law 948 = .ok (.invokevirtual 83, 3) := by decide +kernel
theorem dL_law_951 : decode cL_law 951 = .ok (.iload 5, 2) := by decide +kernel
theorem dL_law_953 : decode cL_law 953 = .ok (.if_icmp .eq 5, 3) := by decide +kernel
theorem dL_law_956 : decode cL_law 956 = .ok (.iconst 0, 1) := by decide +kernel
theorem dL_law_957 : decode cL_law 957 = .ok (.ireturn, 1) := by decide +kernel
theorem dL_law_958 : decode cL_law 958 = .ok (.iload 5, 2) := by decide +kernel
theorem dL_law_960 : decode cL_law 960 = .ok (.ifCond .ne 15, 3) := by decide +kernel
theorem dL_law_963 : decode cL_law 963 = .ok (.aload_n 3, 1) := by decide +kernel
theorem dL_law_964 : decode cL_law 964 = .ok (.iconst 0, 1) := by decide +kernel
theorem dL_law_965 : decode cL_law 965 = .ok (.laload, 1) := by decide +kernel
theorem dL_law_966 : decode cL_law 966 = .ok (.iload 6, 2) := by decide +kernel
theorem dL_law_968 : decode cL_law 968 = .ok (.i2l, 1) := by decide +kernel
theorem dL_law_969 : decode cL_law 969 = .ok (.lcmp, 1) := by decide +kernel
theorem dL_law_970 : decode cL_law 970 = .ok (.ifCond .eq 5, 3) := by decide +kernel
theorem dL_law_973 : decode cL_law 973 = .ok (.iconst 0, 1) := by decide +kernel
theorem dL_law_974 : decode cL_law 974 = .ok (.ireturn, 1) := by decide +kernel
theorem dL_law_975 : decode cL_law 975 = .ok (.goto 400, 3) := by decide +kernel
theorem dL_law_978 : decode cL_law 978 = .ok (.aload_n 1, 1) := by decide +kernel
theorem dL_law_979 : decode cL_law 979 = .ok (.aload_n 0, 1) := by decide +kernel
theorem dL_law_980 : decode cL_law 980 = .ok (.iload 4, 2) := by decide +kernel
theorem dL_law_982 : decode cL_law 982 = .ok (.iconst 1, 1) := by decide +kernel
theorem dL_law_983 : decode cL_law 983 = .ok (.iadd, 1) := by decide +kernel
theorem dL_law_984 : decode cL_law 984 = .ok (.iaload, 1) := by decide +kernel
theorem dL_law_985 : decode cL_law 985 = .ok (.aload_n 3, 1) := by decide +kernel
theorem dL_law_986 : decode cL_law 986 = .ok (.invokestatic 133, 3) := by decide +kernel
theorem dL_law_989 : decode cL_law 989 = .ok (.istore 5, 2) := by decide +kernel
theorem dL_law_991 : decode cL_law 991 = .ok (.aload_n 2, 1) := by decide +kernel
theorem dL_law_992 : decode cL_law 992 = .ok (.aload_n 0, 1) := by decide +kernel
theorem dL_law_993 : decode cL_law 993 = .ok (.iload 4, 2) := by decide +kernel
theorem dL_law_995 : decode cL_law 995 = .ok (.iconst 1, 1) := by decide +kernel
theorem dL_law_996 : decode cL_law 996 = .ok (.iadd, 1) := by decide +kernel
theorem dL_law_997 : decode cL_law 997 = .ok (.iaload, 1) := by decide +kernel
theorem dL_law_998 : decode cL_law 998 = .ok (.invokevirtual 135, 3) := by decide +kernel
theorem dL_law_1001 : decode cL_law 1001 = .ok (.istore 6, 2) := by decide +kernel
theorem dL_law_1003 : decode cL_law 1003 = .ok (.aload_n 2, 1) := by decide +kernel
theorem dL_law_1004 : decode cL_law 1004 = .ok (.invokevirtual 83, 3) := by decide +kernel
theorem dL_law_1007 : decode cL_law 1007 = .ok (.iload 5, 2) := by decide +kernel
theorem dL_law_1009 : decode cL_law 1009 = .ok (.if_icmp .eq 5, 3) := by decide +kernel
theorem dL_law_1012 : decode cL_law 1012 = .ok (.iconst 0, 1) := by decide +kernel
theorem dL_law_1013 : decode cL_law 1013 = .ok (.ireturn, 1) := by decide +kernel
theorem dL_law_1014 : decode cL_law 1014 = .ok (.iload 5, 2) := by decide +kernel
theorem dL_law_1016 : decode cL_law 1016 = .ok (.ifCond .ne 15, 3) := by decide +kernel
theorem dL_law_1019 : decode cL_law 1019 = .ok (.aload_n 3, 1) := by decide +kernel
theorem dL_law_1020 : decode cL_law 1020 = .ok (.iconst 0, 1) := by decide +kernel
theorem dL_law_1021 : decode cL_law 1021 = .ok (.laload, 1) := by decide +kernel
theorem dL_law_1022 : decode cL_law 1022 = .ok (.iload 6, 2) := by decide +kernel
theorem dL_law_1024 : decode cL_law 1024 = .ok (.i2l, 1) := by decide +kernel
theorem dL_law_1025 : decode cL_law 1025 = .ok (.lcmp, 1) := by decide +kernel
theorem dL_law_1026 : decode cL_law 1026 = .ok (.ifCond .eq 5, 3) := by decide +kernel
theorem dL_law_1029 : decode cL_law 1029 = .ok (.iconst 0, 1) := by decide +kernel
theorem dL_law_1030 : decode cL_law 1030 = .ok (.ireturn, 1) := by decide +kernel
theorem dL_law_1031 : decode cL_law 1031 = .ok (.goto 344, 3) := by decide +kernel
theorem dL_law_1034 : decode cL_law 1034 = .ok (.aload_n 1, 1) := by decide +kernel
theorem dL_law_1035 : decode cL_law 1035 = .ok (.aload_n 0, 1) := by decide +kernel
theorem dL_law_1036 : decode cL_law 1036 = .ok (.iload 4, 2) := by decide +kernel
theorem dL_law_1038 : decode cL_law 1038 = .ok (.iconst 1, 1) := by decide +kernel
theorem dL_law_1039 : decode cL_law 1039 = .ok (.iadd, 1) := by decide +kernel
theorem dL_law_1040 : decode cL_law 1040 = .ok (.iaload, 1) := by decide +kernel
theorem dL_law_1041 : decode cL_law 1041 = .ok (.aload_n 0, 1) := by decide +kernel
theorem dL_law_1042 : decode cL_law 1042 = .ok (.iload 4, 2) := by decide +kernel
theorem dL_law_1044 : decode cL_law 1044 = .ok (.iconst 2, 1) := by decide +kernel
theorem dL_law_1045 : decode cL_law 1045 = .ok (.iadd, 1) := by decide +kernel
theorem dL_law_1046 : decode cL_law 1046 = .ok (.iaload, 1) := by decide +kernel
theorem dL_law_1047 : decode cL_law 1047 = .ok (.aload_n 3, 1) := by decide +kernel
theorem dL_law_1048 : decode cL_law 1048 = .ok (.invokestatic 136, 3) := by decide +kernel
theorem dL_law_1051 : decode cL_law 1051 = .ok (.istore 5, 2) := by decide +kernel
theorem dL_law_1053 : decode cL_law 1053 = .ok (.aload_n 2, 1) := by decide +kernel
theorem dL_law_1054 : decode cL_law 1054 = .ok (.aload_n 0, 1) := by decide +kernel
theorem dL_law_1055 : decode cL_law 1055 = .ok (.iload 4, 2) := by decide +kernel
theorem dL_law_1057 : decode cL_law 1057 = .ok (.iconst 1, 1) := by decide +kernel
theorem dL_law_1058 : decode cL_law 1058 = .ok (.iadd, 1) := by decide +kernel
theorem dL_law_1059 : decode cL_law 1059 = .ok (.iaload, 1) := by decide +kernel
theorem dL_law_1060 : decode cL_law 1060 = .ok (.aload_n 0, 1) := by decide +kernel
theorem dL_law_1061 : decode cL_law 1061 = .ok (.iload 4, 2) := by decide +kernel
theorem dL_law_1063 : decode cL_law 1063 = .ok (.iconst 2, 1) := by decide +kernel
theorem dL_law_1064 : decode cL_law 1064 = .ok (.iadd, 1) := by decide +kernel
theorem dL_law_1065 : decode cL_law 1065 = .ok (.iaload, 1) := by decide +kernel
theorem dL_law_1066 : decode cL_law 1066 = .ok (.invokevirtual 138, 3) := by decide +kernel
theorem dL_law_1069 : decode cL_law 1069 = .ok (.istore 6, 2) := by decide +kernel
theorem dL_law_1071 : decode cL_law 1071 = .ok (.aload_n 2, 1) := by decide +kernel
theorem dL_law_1072 : decode cL_law 1072 = .ok (.invokevirtual 83, 3) := by decide +kernel
theorem dL_law_1075 : decode cL_law 1075 = .ok (.iload 5, 2) := by decide +kernel
theorem dL_law_1077 : decode cL_law 1077 = .ok (.if_icmp .eq 5, 3) := by decide +kernel
theorem dL_law_1080 : decode cL_law 1080 = .ok (.iconst 0, 1) := by decide +kernel
theorem dL_law_1081 : decode cL_law 1081 = .ok (.ireturn, 1) := by decide +kernel
theorem dL_law_1082 : decode cL_law 1082 = .ok (.iload 5, 2) := by decide +kernel
theorem dL_law_1084 : decode cL_law 1084 = .ok (.ifCond .ne 15, 3) := by decide +kernel
theorem dL_law_1087 : decode cL_law 1087 = .ok (.aload_n 3, 1) := by decide +kernel
theorem dL_law_1088 : decode cL_law 1088 = .ok (.iconst 0, 1) := by decide +kernel
theorem dL_law_1089 : decode cL_law 1089 = .ok (.laload, 1) := by decide +kernel
theorem dL_law_1090 : decode cL_law 1090 = .ok (.iload 6, 2) := by decide +kernel
theorem dL_law_1092 : decode cL_law 1092 = .ok (.i2l, 1) := by decide +kernel
theorem dL_law_1093 : decode cL_law 1093 = .ok (.lcmp, 1) := by decide +kernel
theorem dL_law_1094 : decode cL_law 1094 = .ok (.ifCond .eq 5, 3) := by decide +kernel
theorem dL_law_1097 : decode cL_law 1097 = .ok (.iconst 0, 1) := by decide +kernel
theorem dL_law_1098 : decode cL_law 1098 = .ok (.ireturn, 1) := by decide +kernel
theorem dL_law_1099 : decode cL_law 1099 = .ok (.goto 276, 3) := by decide +kernel
theorem dL_law_1102 : decode cL_law 1102 = .ok (.aload_n 1, 1) := by decide +kernel
theorem dL_law_1103 : decode cL_law 1103 = .ok (.aload_n 0, 1) := by decide +kernel
theorem dL_law_1104 : decode cL_law 1104 = .ok (.iload 4, 2) := by decide +kernel
theorem dL_law_1106 : decode cL_law 1106 = .ok (.iconst 1, 1) := by decide +kernel
theorem dL_law_1107 : decode cL_law 1107 = .ok (.iadd, 1) := by decide +kernel
theorem dL_law_1108 : decode cL_law 1108 = .ok (.iaload, 1) := by decide +kernel
theorem dL_law_1109 : decode cL_law 1109 = .ok (.aload_n 0, 1) := by decide +kernel
theorem dL_law_1110 : decode cL_law 1110 = .ok (.iload 4, 2) := by decide +kernel
theorem dL_law_1112 : decode cL_law 1112 = .ok (.iconst 2, 1) := by decide +kernel
theorem dL_law_1113 : decode cL_law 1113 = .ok (.iadd, 1) := by decide +kernel
theorem dL_law_1114 : decode cL_law 1114 = .ok (.iaload, 1) := by decide +kernel
theorem dL_law_1115 : decode cL_law 1115 = .ok (.aload_n 3, 1) := by decide +kernel
theorem dL_law_1116 : decode cL_law 1116 = .ok (.invokestatic 139, 3) := by decide +kernel
theorem dL_law_1119 : decode cL_law 1119 = .ok (.istore 5, 2) := by decide +kernel
theorem dL_law_1121 : decode cL_law 1121 = .ok (.aload_n 2, 1) := by decide +kernel
theorem dL_law_1122 : decode cL_law 1122 = .ok (.aload_n 0, 1) := by decide +kernel
theorem dL_law_1123 : decode cL_law 1123 = .ok (.iload 4, 2) := by decide +kernel
theorem dL_law_1125 : decode cL_law 1125 = .ok (.iconst 1, 1) := by decide +kernel
theorem dL_law_1126 : decode cL_law 1126 = .ok (.iadd, 1) := by decide +kernel
theorem dL_law_1127 : decode cL_law 1127 = .ok (.iaload, 1) := by decide +kernel
theorem dL_law_1128 : decode cL_law 1128 = .ok (.aload_n 0, 1) := by decide +kernel
theorem dL_law_1129 : decode cL_law 1129 = .ok (.iload 4, 2) := by decide +kernel
theorem dL_law_1131 : decode cL_law 1131 = .ok (.iconst 2, 1) := by decide +kernel
theorem dL_law_1132 : decode cL_law 1132 = .ok (.iadd, 1) := by decide +kernel
theorem dL_law_1133 : decode cL_law 1133 = .ok (.iaload, 1) := by decide +kernel
theorem dL_law_1134 : decode cL_law 1134 = .ok (.invokevirtual 141, 3) := by decide +kernel
theorem dL_law_1137 : decode cL_law 1137 = .ok (.istore 6, 2) := by decide +kernel
theorem dL_law_1139 : decode cL_law 1139 = .ok (.aload_n 2, 1) := by decide +kernel
theorem dL_law_1140 : decode cL_law 1140 = .ok (.invokevirtual 83, 3) := by decide +kernel
theorem dL_law_1143 : decode cL_law 1143 = .ok (.iload 5, 2) := by decide +kernel
theorem dL_law_1145 : decode cL_law 1145 = .ok (.if_icmp .eq 5, 3) := by decide +kernel
theorem dL_law_1148 : decode cL_law 1148 = .ok (.iconst 0, 1) := by decide +kernel
theorem dL_law_1149 : decode cL_law 1149 = .ok (.ireturn, 1) := by decide +kernel
theorem dL_law_1150 : decode cL_law 1150 = .ok (.iload 5, 2) := by decide +kernel
theorem dL_law_1152 : decode cL_law 1152 = .ok (.ifCond .ne 15, 3) := by decide +kernel
theorem dL_law_1155 : decode cL_law 1155 = .ok (.aload_n 3, 1) := by decide +kernel
theorem dL_law_1156 : decode cL_law 1156 = .ok (.iconst 0, 1) := by decide +kernel
theorem dL_law_1157 : decode cL_law 1157 = .ok (.laload, 1) := by decide +kernel
theorem dL_law_1158 : decode cL_law 1158 = .ok (.iload 6, 2) := by decide +kernel
theorem dL_law_1160 : decode cL_law 1160 = .ok (.i2l, 1) := by decide +kernel
theorem dL_law_1161 : decode cL_law 1161 = .ok (.lcmp, 1) := by decide +kernel
theorem dL_law_1162 : decode cL_law 1162 = .ok (.ifCond .eq 5, 3) := by decide +kernel
theorem dL_law_1165 : decode cL_law 1165 = .ok (.iconst 0, 1) := by decide +kernel
theorem dL_law_1166 : decode cL_law 1166 = .ok (.ireturn, 1) := by decide +kernel
theorem dL_law_1167 : decode cL_law 1167 = .ok (.goto 208, 3) := by decide +kernel
theorem dL_law_1170 : decode cL_law 1170 = .ok (.aload_n 1, 1) := by decide +kernel
theorem dL_law_1171 : decode cL_law 1171 = .ok (.aload_n 0, 1) := by decide +kernel
theorem dL_law_1172 : decode cL_law 1172 = .ok (.iload 4, 2) := by decide +kernel
theorem dL_law_1174 : decode cL_law 1174 = .ok (.iconst 1, 1) := by decide +kernel
theorem dL_law_1175 : decode cL_law 1175 = .ok (.iadd, 1) := by decide +kernel
theorem dL_law_1176 : decode cL_law 1176 = .ok (.iaload, 1) := by decide +kernel
theorem dL_law_1177 : decode cL_law 1177 = .ok (.aload_n 0, 1) := by decide +kernel
theorem dL_law_1178 : decode cL_law 1178 = .ok (.iload 4, 2) := by decide +kernel
theorem dL_law_1180 : decode cL_law 1180 = .ok (.iconst 2, 1) := by decide +kernel
theorem dL_law_1181 : decode cL_law 1181 = .ok (.iadd, 1) := by decide +kernel
theorem dL_law_1182 : decode cL_law 1182 = .ok (.iaload, 1) := by decide +kernel
theorem dL_law_1183 : decode cL_law 1183 = .ok (.aload_n 3, 1) := by decide +kernel
theorem dL_law_1184 : decode cL_law 1184 = .ok (.invokestatic 142, 3) := by decide +kernel
theorem dL_law_1187 : decode cL_law 1187 = .ok (.istore 5, 2) := by decide +kernel
theorem dL_law_1189 : decode cL_law 1189 = .ok (.aload_n 2, 1) := by decide +kernel
theorem dL_law_1190 : decode cL_law 1190 = .ok (.aload_n 0, 1) := by decide +kernel
theorem dL_law_1191 : decode cL_law 1191 = .ok (.iload 4, 2) := by decide +kernel
theorem dL_law_1193 : decode cL_law 1193 = .ok (.iconst 1, 1) := by decide +kernel
theorem dL_law_1194 : decode cL_law 1194 = .ok (.iadd, 1) := by decide +kernel
theorem dL_law_1195 : decode cL_law 1195 = .ok (.iaload, 1) := by decide +kernel
theorem dL_law_1196 : decode cL_law 1196 = .ok (.aload_n 0, 1) := by decide +kernel
theorem dL_law_1197 : decode cL_law 1197 = .ok (.iload 4, 2) := by decide +kernel
theorem dL_law_1199 : decode cL_law 1199 = .ok (.iconst 2, 1) := by decide +kernel
theorem dL_law_1200 : decode cL_law 1200 = .ok (.iadd, 1) := by decide +kernel
theorem dL_law_1201 : decode cL_law 1201 = .ok (.iaload, 1) := by decide +kernel
theorem dL_law_1202 : decode cL_law 1202 = .ok (.invokevirtual 144, 3) := by decide +kernel
theorem dL_law_1205 : decode cL_law 1205 = .ok (.istore 6, 2) := by decide +kernel
theorem dL_law_1207 : decode cL_law 1207 = .ok (.aload_n 2, 1) := by decide +kernel
theorem dL_law_1208 : decode cL_law 1208 = .ok (.invokevirtual 83, 3) := by decide +kernel
theorem dL_law_1211 : decode cL_law 1211 = .ok (.iload 5, 2) := by decide +kernel
theorem dL_law_1213 : decode cL_law 1213 = .ok (.if_icmp .eq 5, 3) := by decide +kernel
theorem dL_law_1216 : decode cL_law 1216 = .ok (.iconst 0, 1) := by decide +kernel
theorem dL_law_1217 : decode cL_law 1217 = .ok (.ireturn, 1) := by decide +kernel
theorem dL_law_1218 : decode cL_law 1218 = .ok (.iload 5, 2) := by decide +kernel
theorem dL_law_1220 : decode cL_law 1220 = .ok (.ifCond .ne 15, 3) := by decide +kernel
theorem dL_law_1223 : decode cL_law 1223 = .ok (.aload_n 3, 1) := by decide +kernel
theorem dL_law_1224 : decode cL_law 1224 = .ok (.iconst 0, 1) := by decide +kernel
theorem dL_law_1225 : decode cL_law 1225 = .ok (.laload, 1) := by decide +kernel
theorem dL_law_1226 : decode cL_law 1226 = .ok (.iload 6, 2) := by decide +kernel
theorem dL_law_1228 : decode cL_law 1228 = .ok (.i2l, 1) := by decide +kernel
theorem dL_law_1229 : decode cL_law 1229 = .ok (.lcmp, 1) := by decide +kernel
theorem dL_law_1230 : decode cL_law 1230 = .ok (.ifCond .eq 5, 3) := by decide +kernel
theorem dL_law_1233 : decode cL_law 1233 = .ok (.iconst 0, 1) := by decide +kernel
theorem dL_law_1234 : decode cL_law 1234 = .ok (.ireturn, 1) := by decide +kernel
theorem dL_law_1235 : decode cL_law 1235 = .ok (.goto 140, 3) := by decide +kernel
theorem dL_law_1238 : decode cL_law 1238 = .ok (.aload_n 1, 1) := by decide +kernel
theorem dL_law_1239 : decode cL_law 1239 = .ok (.aload_n 0, 1) := by decide +kernel
theorem dL_law_1240 : decode cL_law 1240 = .ok (.iload 4, 2) := by decide +kernel
theorem dL_law_1242 : decode cL_law 1242 = .ok (.iconst 1, 1) := by decide +kernel
theorem dL_law_1243 : decode cL_law 1243 = .ok (.iadd, 1) := by decide +kernel
theorem dL_law_1244 : decode cL_law 1244 = .ok (.iaload, 1) := by decide +kernel
theorem dL_law_1245 : decode cL_law 1245 = .ok (.aload_n 3, 1) := by decide +kernel
theorem dL_law_1246 : decode cL_law 1246 = .ok (.invokestatic 145, 3) := by decide +kernel
theorem dL_law_1249 : decode cL_law 1249 = .ok (.istore 5, 2) := by decide +kernel
theorem dL_law_1251 : decode cL_law 1251 = .ok (.aload_n 2, 1) := by decide +kernel
theorem dL_law_1252 : decode cL_law 1252 = .ok (.aload_n 0, 1) := by decide +kernel
theorem dL_law_1253 : decode cL_law 1253 = .ok (.iload 4, 2) := by decide +kernel
theorem dL_law_1255 : decode cL_law 1255 = .ok (.iconst 1, 1) := by decide +kernel
theorem dL_law_1256 : decode cL_law 1256 = .ok (.iadd, 1) := by decide +kernel
theorem dL_law_1257 : decode cL_law 1257 = .ok (.iaload, 1) := by decide +kernel
theorem dL_law_1258 : decode cL_law 1258 = .ok (.invokevirtual 147, 3) := by decide +kernel
theorem dL_law_1261 : decode cL_law 1261 = .ok (.istore 6, 2) := by decide +kernel
theorem dL_law_1263 : decode cL_law 1263 = .ok (.aload_n 2, 1) := by decide +kernel
theorem dL_law_1264 : decode cL_law 1264 = .ok (.invokevirtual 83, 3) := by decide +kernel
theorem dL_law_1267 : decode cL_law 1267 = .ok (.iload 5, 2) := by decide +kernel
theorem dL_law_1269 : decode cL_law 1269 = .ok (.if_icmp .eq 5, 3) := by decide +kernel
theorem dL_law_1272 : decode cL_law 1272 = .ok (.iconst 0, 1) := by decide +kernel
theorem dL_law_1273 : decode cL_law 1273 = .ok (.ireturn, 1) := by decide +kernel
theorem dL_law_1274 : decode cL_law 1274 = .ok (.iload 5, 2) := by decide +kernel
theorem dL_law_1276 : decode cL_law 1276 = .ok (.ifCond .ne 15, 3) := by decide +kernel
theorem dL_law_1279 : decode cL_law 1279 = .ok (.aload_n 3, 1) := by decide +kernel
theorem dL_law_1280 : decode cL_law 1280 = .ok (.iconst 0, 1) := by decide +kernel
theorem dL_law_1281 : decode cL_law 1281 = .ok (.laload, 1) := by decide +kernel
theorem dL_law_1282 : decode cL_law 1282 = .ok (.iload 6, 2) := by decide +kernel
theorem dL_law_1284 : decode cL_law 1284 = .ok (.i2l, 1) := by decide +kernel
theorem dL_law_1285 : decode cL_law 1285 = .ok (.lcmp, 1) := by decide +kernel
theorem dL_law_1286 : decode cL_law 1286 = .ok (.ifCond .eq 5, 3) := by decide +kernel
theorem dL_law_1289 : decode cL_law 1289 = .ok (.iconst 0, 1) := by decide +kernel
theorem dL_law_1290 : decode cL_law 1290 = .ok (.ireturn, 1) := by decide +kernel
theorem dL_law_1291 : decode cL_law 1291 = .ok (.goto 84, 3) := by decide +kernel
theorem dL_law_1294 : decode cL_law 1294 = .ok (.aload_n 1, 1) := by decide +kernel
theorem dL_law_1295 : decode cL_law 1295 = .ok (.invokevirtual 148, 3) := by decide +kernel
theorem dL_law_1298 : decode cL_law 1298 = .ok (.aload_n 2, 1) := by decide +kernel
theorem dL_law_1299 : decode cL_law 1299 = .ok (.invokevirtual 151, 3) := by decide +kernel
theorem dL_law_1302 : decode cL_law 1302 = .ok (.if_icmp .eq 73, 3) := by decide +kernel
theorem dL_law_1305 : decode cL_law 1305 = .ok (.iconst 0, 1) := by decide +kernel
theorem dL_law_1306 : decode cL_law 1306 = .ok (.ireturn, 1) := by decide +kernel
theorem dL_law_1307 : decode cL_law 1307 = .ok (.aload_n 1, 1) := by decide +kernel
theorem dL_law_1308 : decode cL_law 1308 = .ok (.invokevirtual 152, 3) := by decide +kernel
theorem dL_law_1311 : decode cL_law 1311 = .ok (.aload_n 2, 1) := by decide +kernel
theorem dL_law_1312 : decode cL_law 1312 = .ok (.invokevirtual 155, 3) := by decide +kernel
theorem dL_law_1315 : decode cL_law 1315 = .ok (.if_icmp .eq 60, 3) := by decide +kernel
theorem dL_law_1318 : decode cL_law 1318 = .ok (.iconst 0, 1) := by decide +kernel
theorem dL_law_1319 : decode cL_law 1319 = .ok (.ireturn, 1) := by decide +kernel
theorem dL_law_1320 : decode cL_law 1320 = .ok (.aload_n 1, 1) := by decide +kernel
theorem dL_law_1321 : decode cL_law 1321 = .ok (.invokevirtual 156, 3) := by decide +kernel
theorem dL_law_1324 : decode cL_law 1324 = .ok (.dstore 5, 2) := by decide +kernel
theorem dL_law_1326 : decode cL_law 1326 = .ok (.aload_n 2, 1) := by decide +kernel
theorem dL_law_1327 : decode cL_law 1327 = .ok (.invokevirtual 160, 3) := by decide +kernel
theorem dL_law_1330 : decode cL_law 1330 = .ok (.dstore 7, 2) := by decide +kernel
theorem dL_law_1332 : decode cL_law 1332 = .ok (.dload 5, 2) := by decide +kernel
theorem dL_law_1334 : decode cL_law 1334 = .ok (.dload 7, 2) := by decide +kernel
theorem dL_law_1336 : decode cL_law 1336 = .ok (.dcmp .l, 1) := by decide +kernel
theorem dL_law_1337 : decode cL_law 1337 = .ok (.ifCond .eq 21, 3) := by decide +kernel
theorem dL_law_1340 : decode cL_law 1340 = .ok (.dload 5, 2) := by decide +kernel
theorem dL_law_1342 : decode cL_law 1342 = .ok (.dload 5, 2) := by decide +kernel
theorem dL_law_1344 : decode cL_law 1344 = .ok (.dcmp .l, 1) := by decide +kernel
theorem dL_law_1345 : decode cL_law 1345 = .ok (.ifCond .eq 11, 3) := by decide +kernel
theorem dL_law_1348 : decode cL_law 1348 = .ok (.dload 7, 2) := by decide +kernel
theorem dL_law_1350 : decode cL_law 1350 = .ok (.dload 7, 2) := by decide +kernel
theorem dL_law_1352 : decode cL_law 1352 = .ok (.dcmp .l, 1) := by decide +kernel
theorem dL_law_1353 : decode cL_law 1353 = .ok (.ifCond .ne 5, 3) := by decide +kernel
theorem dL_law_1356 : decode cL_law 1356 = .ok (.iconst 0, 1) := by decide +kernel
theorem dL_law_1357 : decode cL_law 1357 = .ok (.ireturn, 1) := by decide +kernel
theorem dL_law_1358 : decode cL_law 1358 = .ok (.goto 17, 3) := by decide +kernel
theorem dL_law_1361 : decode cL_law 1361 = .ok (.aload_n 1, 1) := by decide +kernel
theorem dL_law_1362 : decode cL_law 1362 = .ok (.invokevirtual 161, 3) := by decide +kernel
theorem dL_law_1365 : decode cL_law 1365 = .ok (.aload_n 2, 1) := by decide +kernel
theorem dL_law_1366 : decode cL_law 1366 = .ok (.invokevirtual 165, 3) := by decide +kernel
theorem dL_law_1369 : decode cL_law 1369 = .ok (.lcmp, 1) := by decide +kernel
theorem dL_law_1370 : decode cL_law 1370 = .ok (.ifCond .eq 5, 3) := by decide +kernel
theorem dL_law_1373 : decode cL_law 1373 = .ok (.iconst 0, 1) := by decide +kernel
theorem dL_law_1374 : decode cL_law 1374 = .ok (.ireturn, 1) := by decide +kernel
theorem dL_law_1375 : decode cL_law 1375 = .ok (.iinc 4 4, 3) := by decide +kernel
theorem dL_law_1378 : decode cL_law 1378 = .ok (.goto (-1355), 3) := by decide +kernel
theorem dL_law_1381 : decode cL_law 1381 = .ok (.iconst 1, 1) := by decide +kernel
theorem dL_law_1382 : decode cL_law 1382 = .ok (.ireturn, 1) := by decide +kernel
end
section
/-! each word of the law's list, by its place -/
theorem mr_0 : ∀ w ∈ wsL_law0, w ∈ wsL_law := fun _ h => List.mem_append_left _ (List.mem_append_left _ (List.mem_append_left _ h))
theorem mr_1 : ∀ w ∈ wsL_law0_r1, w ∈ wsL_law := fun _ h => mr_0 _ (by unfold wsL_law0; exact List.mem_append_left _ (List.mem_append_left _ (List.mem_append_left _ (List.mem_append_left _ (List.mem_append_left _ (List.mem_append_left _ (List.mem_append_left _ (List.mem_append_left _ (List.mem_append_left _ (List.mem_append_left _ h))))))))))
theorem mr_2 : ∀ w ∈ wsL_law0_r2, w ∈ wsL_law := fun _ h => mr_0 _ (by unfold wsL_law0; exact List.mem_append_left _ (List.mem_append_left _ (List.mem_append_left _ (List.mem_append_left _ (List.mem_append_left _ (List.mem_append_left _ (List.mem_append_left _ (List.mem_append_left _ (List.mem_append_left _ (List.mem_append_right _ (List.mem_append_left _ h)))))))))))
theorem mr_3 : ∀ w ∈ wsL_law0_r3, w ∈ wsL_law := fun _ h => mr_0 _ (by unfold wsL_law0; exact List.mem_append_left _ (List.mem_append_left _ (List.mem_append_left _ (List.mem_append_left _ (List.mem_append_left _ (List.mem_append_left _ (List.mem_append_left _ (List.mem_append_left _ (List.mem_append_left _ (List.mem_append_right _ (List.mem_append_right _ (List.mem_append_left _ h))))))))))))
theorem mr_4 : ∀ w ∈ wsL_law0_r4, w ∈ wsL_law := fun _ h => mr_0 _ (by unfold wsL_law0; exact List.mem_append_left _ (List.mem_append_left _ (List.mem_append_left _ (List.mem_append_left _ (List.mem_append_left _ (List.mem_append_left _ (List.mem_append_left _ (List.mem_append_left _ (List.mem_append_left _ (List.mem_append_right _ (List.mem_append_right _ (List.mem_append_right _ (List.mem_append_left _ h)))))))))))))
theorem mr_5 : ∀ w ∈ wsL_law0_r5, w ∈ wsL_law := fun _ h => mr_0 _ (by unfold wsL_law0; exact List.mem_append_left _ (List.mem_append_left _ (List.mem_append_left _ (List.mem_append_left _ (List.mem_append_left _ (List.mem_append_left _ (List.mem_append_left _ (List.mem_append_left _ (List.mem_append_left _ (List.mem_append_right _ (List.mem_append_right _ (List.mem_append_right _ (List.mem_append_right _ (List.mem_append_left _ h))))))))))))))
theorem mr_6 : ∀ w ∈ wsL_law0_r6, w ∈ wsL_law := fun _ h => mr_0 _ (by unfold wsL_law0; exact List.mem_append_left _ (List.mem_append_left _ (List.mem_append_left _ (List.mem_append_left _ (List.mem_append_left _ (List.mem_append_left _ (List.mem_append_left _ (List.mem_append_left _ (List.mem_append_left _ (List.mem_append_right _ (List.mem_append_right _ (List.mem_append_right _ (List.mem_append_right _ (List.mem_append_right _ (List.mem_append_left _ h)))))))))))))))
theorem mr_7 : ∀ w ∈ wsL_law0_r7, w ∈ wsL_law := fun _ h => mr_0 _ (by unfold wsL_law0; exact List.mem_append_left _ (List.mem_append_left _ (List.mem_append_left _ (List.mem_append_left _ (List.mem_append_left _ (List.mem_append_left _ (List.mem_append_left _ (List.mem_append_left _ (List.mem_append_left _ (List.mem_append_right _ (List.mem_append_right _ (List.mem_append_right _ (List.mem_append_right _ (List.mem_append_right _ (List.mem_append_right _ (List.mem_append_left _ h))))))))))))))))
theorem mr_8 : ∀ w ∈ wsL_law0_r8, w ∈ wsL_law := fun _ h => mr_0 _ (by unfold wsL_law0; exact List.mem_append_left _ (List.mem_append_left _ (List.mem_append_left _ (List.mem_append_left _ (List.mem_append_left _ (List.mem_append_left _ (List.mem_append_left _ (List.mem_append_left _ (List.mem_append_left _ (List.mem_append_right _ (List.mem_append_right _ (List.mem_append_right _ (List.mem_append_right _ (List.mem_append_right _ (List.mem_append_right _ (List.mem_append_right _ (List.mem_append_left _ h)))))))))))))))))
theorem mr_9 : ∀ w ∈ wsL_law0_r9, w ∈ wsL_law := fun _ h => mr_0 _ (by unfold wsL_law0; exact List.mem_append_left _ (List.mem_append_left _ (List.mem_append_left _ (List.mem_append_left _ (List.mem_append_left _ (List.mem_append_left _ (List.mem_append_left _ (List.mem_append_left _ (List.mem_append_left _ (List.mem_append_right _ (List.mem_append_right _ (List.mem_append_right _ (List.mem_append_right _ (List.mem_append_right _ (List.mem_append_right _ (List.mem_append_right _ (List.mem_append_right _ (List.mem_append_left _ h))))))))))))))))))
theorem mr_10 : ∀ w ∈ wsL_law0_r10, w ∈ wsL_law := fun _ h => mr_0 _ (by unfold wsL_law0; exact List.mem_append_left _ (List.mem_append_left _ (List.mem_append_left _ (List.mem_append_left _ (List.mem_append_left _ (List.mem_append_left _ (List.mem_append_left _ (List.mem_append_left _ (List.mem_append_left _ (List.mem_append_right _ (List.mem_append_right _ (List.mem_append_right _ (List.mem_append_right _ (List.mem_append_right _ (List.mem_append_right _ (List.mem_append_right _ (List.mem_append_right _ (List.mem_append_right _ (List.mem_append_left _ h)))))))))))))))))))
theorem mr_11 : ∀ w ∈ wsL_law0_r11, w ∈ wsL_law := fun _ h => mr_0 _ (by unfold wsL_law0; exact List.mem_append_left _ (List.mem_append_left _ (List.mem_append_left _ (List.mem_append_left _ (List.mem_append_left _ (List.mem_append_left _ (List.mem_append_left _ (List.mem_append_left _ (List.mem_append_left _ (List.mem_append_right _ (List.mem_append_right _ (List.mem_append_right _ (List.mem_append_right _ (List.mem_append_right _ (List.mem_append_right _ (List.mem_append_right _ (List.mem_append_right _ (List.mem_append_right _ (List.mem_append_right _ (List.mem_append_left _ h))))))))))))))))))))
theorem mr_12 : ∀ w ∈ wsL_law0_r12, w ∈ wsL_law := fun _ h => mr_0 _ (by unfold wsL_law0; exact List.mem_append_left _ (List.mem_append_left _ (List.mem_append_left _ (List.mem_append_left _ (List.mem_append_left _ (List.mem_append_left _ (List.mem_append_left _ (List.mem_append_left _ (List.mem_append_left _ (List.mem_append_right _ (List.mem_append_right _ (List.mem_append_right _ (List.mem_append_right _ (List.mem_append_right _ (List.mem_append_right _ (List.mem_append_right _ (List.mem_append_right _ (List.mem_append_right _ (List.mem_append_right _ (List.mem_append_right _ (List.mem_append_left _ h)))))))))))))))))))))
theorem mr_13 : ∀ w ∈ wsL_law0_r13, w ∈ wsL_law := fun _ h => mr_0 _ (by unfold wsL_law0; exact List.mem_append_left _ (List.mem_append_left _ (List.mem_append_left _ (List.mem_append_left _ (List.mem_append_left _ (List.mem_append_left _ (List.mem_append_left _ (List.mem_append_left _ (List.mem_append_left _ (List.mem_append_right _ (List.mem_append_right _ (List.mem_append_right _ (List.mem_append_right _ (List.mem_append_right _ (List.mem_append_right _ (List.mem_append_right _ (List.mem_append_right _ (List.mem_append_right _ (List.mem_append_right _ (List.mem_append_right _ (List.mem_append_right _ (List.mem_append_left _ h))))))))))))))))))))))
theorem mr_14 : ∀ w ∈ wsL_law0_r14, w ∈ wsL_law := fun _ h => mr_0 _ (by unfold wsL_law0; exact List.mem_append_left _ (List.mem_append_left _ (List.mem_append_left _ (List.mem_append_left _ (List.mem_append_left _ (List.mem_append_left _ (List.mem_append_left _ (List.mem_append_left _ (List.mem_append_left _ (List.mem_append_right _ (List.mem_append_right _ (List.mem_append_right _ (List.mem_append_right _ (List.mem_append_right _ (List.mem_append_right _ (List.mem_append_right _ (List.mem_append_right _ (List.mem_append_right _ (List.mem_append_right _ (List.mem_append_right _ (List.mem_append_right _ (List.mem_append_right _ (List.mem_append_left _ h)))))))))))))))))))))))
theorem mr_15 : ∀ w ∈ wsL_law0_r15, w ∈ wsL_law := fun _ h => mr_0 _ (by unfold wsL_law0; exact List.mem_append_left _ (List.mem_append_left _ (List.mem_append_left _ (List.mem_append_left _ (List.mem_append_left _ (List.mem_append_left _ (List.mem_append_left _ (List.mem_append_left _ (List.mem_append_left _ (List.mem_append_right _ (List.mem_append_right _ (List.mem_append_right _ (List.mem_append_right _ (List.mem_append_right _ (List.mem_append_right _ (List.mem_append_right _ (List.mem_append_right _ (List.mem_append_right _ (List.mem_append_right _ (List.mem_append_right _ (List.mem_append_right _ (List.mem_append_right _ (List.mem_append_right _ (List.mem_append_left _ h))))))))))))))))))))))))
theorem mr_16 : ∀ w ∈ wsL_law0_r16, w ∈ wsL_law := fun _ h => mr_0 _ (by unfold wsL_law0; exact List.mem_append_left _ (List.mem_append_left _ (List.mem_append_left _ (List.mem_append_left _ (List.mem_append_left _ (List.mem_append_left _ (List.mem_append_left _ (List.mem_append_left _ (List.mem_append_left _ (List.mem_append_right _ (List.mem_append_right _ (List.mem_append_right _ (List.mem_append_right _ (List.mem_append_right _ (List.mem_append_right _ (List.mem_append_right _ (List.mem_append_right _ (List.mem_append_right _ (List.mem_append_right _ (List.mem_append_right _ (List.mem_append_right _ (List.mem_append_right _ (List.mem_append_right _ (List.mem_append_right _ (List.mem_append_left _ h)))))))))))))))))))))))))
theorem mr_17 : ∀ w ∈ wsL_law0_r17, w ∈ wsL_law := fun _ h => mr_0 _ (by unfold wsL_law0; exact List.mem_append_left _ (List.mem_append_left _ (List.mem_append_left _ (List.mem_append_left _ (List.mem_append_left _ (List.mem_append_left _ (List.mem_append_left _ (List.mem_append_left _ (List.mem_append_left _ (List.mem_append_right _ (List.mem_append_right _ (List.mem_append_right _ (List.mem_append_right _ (List.mem_append_right _ (List.mem_append_right _ (List.mem_append_right _ (List.mem_append_right _ (List.mem_append_right _ (List.mem_append_right _ (List.mem_append_right _ (List.mem_append_right _ (List.mem_append_right _ (List.mem_append_right _ (List.mem_append_right _ (List.mem_append_right _ (List.mem_append_left _ h))))))))))))))))))))))))))
theorem mr_18 : ∀ w ∈ wsL_law0_r18, w ∈ wsL_law := fun _ h => mr_0 _ (by unfold wsL_law0; exact List.mem_append_left _ (List.mem_append_left _ (List.mem_append_left _ (List.mem_append_left _ (List.mem_append_left _ (List.mem_append_left _ (List.mem_append_left _ (List.mem_append_left _ (List.mem_append_left _ (List.mem_append_right _ (List.mem_append_right _ (List.mem_append_right _ (List.mem_append_right _ (List.mem_append_right _ (List.mem_append_right _ (List.mem_append_right _ (List.mem_append_right _ (List.mem_append_right _ (List.mem_append_right _ (List.mem_append_right _ (List.mem_append_right _ (List.mem_append_right _ (List.mem_append_right _ (List.mem_append_right _ (List.mem_append_right _ (List.mem_append_right _ (List.mem_append_left _ h)))))))))))))))))))))))))))
theorem mr_19 : ∀ w ∈ wsL_law0_r19, w ∈ wsL_law := fun _ h => mr_0 _ (by unfold wsL_law0; exact List.mem_append_left _ (List.mem_append_left _ (List.mem_append_left _ (List.mem_append_left _ (List.mem_append_left _ (List.mem_append_left _ (List.mem_append_left _ (List.mem_append_left _ (List.mem_append_left _ (List.mem_append_right _ (List.mem_append_right _ (List.mem_append_right _ (List.mem_append_right _ (List.mem_append_right _ (List.mem_append_right _ (List.mem_append_right _ (List.mem_append_right _ (List.mem_append_right _ (List.mem_append_right _ (List.mem_append_right _ (List.mem_append_right _ (List.mem_append_right _ (List.mem_append_right _ (List.mem_append_right _ (List.mem_append_right _ (List.mem_append_right _ (List.mem_append_right _ (List.mem_append_left _ h))))))))))))))))))))))))))))
theorem mr_20 : ∀ w ∈ wsL_law0_r20, w ∈ wsL_law := fun _ h => mr_0 _ (by unfold wsL_law0; exact List.mem_append_left _ (List.mem_append_left _ (List.mem_append_left _ (List.mem_append_left _ (List.mem_append_left _ (List.mem_append_left _ (List.mem_append_left _ (List.mem_append_left _ (List.mem_append_left _ (List.mem_append_right _ (List.mem_append_right _ (List.mem_append_right _ (List.mem_append_right _ (List.mem_append_right _ (List.mem_append_right _ (List.mem_append_right _ (List.mem_append_right _ (List.mem_append_right _ (List.mem_append_right _ (List.mem_append_right _ (List.mem_append_right _ (List.mem_append_right _ (List.mem_append_right _ (List.mem_append_right _ (List.mem_append_right _ (List.mem_append_right _ (List.mem_append_right _ (List.mem_append_right _ (List.mem_append_left _ h)))))))))))))))))))))))))))))
theorem mr_21 : ∀ w ∈ wsL_law0_r21, w ∈ wsL_law := fun _ h => mr_0 _ (by unfold wsL_law0; exact List.mem_append_left _ (List.mem_append_left _ (List.mem_append_left _ (List.mem_append_left _ (List.mem_append_left _ (List.mem_append_left _ (List.mem_append_left _ (List.mem_append_left _ (List.mem_append_left _ (List.mem_append_right _ (List.mem_append_right _ (List.mem_append_right _ (List.mem_append_right _ (List.mem_append_right _ (List.mem_append_right _ (List.mem_append_right _ (List.mem_append_right _ (List.mem_append_right _ (List.mem_append_right _ (List.mem_append_right _ (List.mem_append_right _ (List.mem_append_right _ (List.mem_append_right _ (List.mem_append_right _ (List.mem_append_right _ (List.mem_append_right _ (List.mem_append_right _ (List.mem_append_right _ (List.mem_append_right _ (List.mem_append_left _ h))))))))))))))))))))))))))))))
theorem mr_22 : ∀ w ∈ wsL_law0_r22, w ∈ wsL_law := fun _ h => mr_0 _ (by unfold wsL_law0; exact List.mem_append_left _ (List.mem_append_left _ (List.mem_append_left _ (List.mem_append_left _ (List.mem_append_left _ (List.mem_append_left _ (List.mem_append_left _ (List.mem_append_left _ (List.mem_append_left _ (List.mem_append_right _ (List.mem_append_right _ (List.mem_append_right _ (List.mem_append_right _ (List.mem_append_right _ (List.mem_append_right _ (List.mem_append_right _ (List.mem_append_right _ (List.mem_append_right _ (List.mem_append_right _ (List.mem_append_right _ (List.mem_append_right _ (List.mem_append_right _ (List.mem_append_right _ (List.mem_append_right _ (List.mem_append_right _ (List.mem_append_right _ (List.mem_append_right _ (List.mem_append_right _ (List.mem_append_right _ (List.mem_append_right _ (List.mem_append_left _ h)))))))))))))))))))))))))))))))
theorem mr_23 : ∀ w ∈ wsL_law0_r23, w ∈ wsL_law := fun _ h => mr_0 _ (by unfold wsL_law0; exact List.mem_append_left _ (List.mem_append_left _ (List.mem_append_left _ (List.mem_append_left _ (List.mem_append_left _ (List.mem_append_left _ (List.mem_append_left _ (List.mem_append_left _ (List.mem_append_left _ (List.mem_append_right _ (List.mem_append_right _ (List.mem_append_right _ (List.mem_append_right _ (List.mem_append_right _ (List.mem_append_right _ (List.mem_append_right _ (List.mem_append_right _ (List.mem_append_right _ (List.mem_append_right _ (List.mem_append_right _ (List.mem_append_right _ (List.mem_append_right _ (List.mem_append_right _ (List.mem_append_right _ (List.mem_append_right _ (List.mem_append_right _ (List.mem_append_right _ (List.mem_append_right _ (List.mem_append_right _ (List.mem_append_right _ (List.mem_append_right _ (List.mem_append_left _ h))))))))))))))))))))))))))))))))
theorem mr_24 : ∀ w ∈ wsL_law0_r24, w ∈ wsL_law := fun _ h => mr_0 _ (by unfold wsL_law0; exact List.mem_append_left _ (List.mem_append_left _ (List.mem_append_left _ (List.mem_append_left _ (List.mem_append_left _ (List.mem_append_left _ (List.mem_append_left _ (List.mem_append_left _ (List.mem_append_left _ (List.mem_append_right _ (List.mem_append_right _ (List.mem_append_right _ (List.mem_append_right _ (List.mem_append_right _ (List.mem_append_right _ (List.mem_append_right _ (List.mem_append_right _ (List.mem_append_right _ (List.mem_append_right _ (List.mem_append_right _ (List.mem_append_right _ (List.mem_append_right _ (List.mem_append_right _ (List.mem_append_right _ (List.mem_append_right _ (List.mem_append_right _ (List.mem_append_right _ (List.mem_append_right _ (List.mem_append_right _ (List.mem_append_right _ (List.mem_append_right _ (List.mem_append_right _ (List.mem_append_left _ h)))))))))))))))))))))))))))))))))
theorem mr_25 : ∀ w ∈ wsL_law0_r25, w ∈ wsL_law := fun _ h => mr_0 _ (by unfold wsL_law0; exact List.mem_append_left _ (List.mem_append_left _ (List.mem_append_left _ (List.mem_append_left _ (List.mem_append_left _ (List.mem_append_left _ (List.mem_append_left _ (List.mem_append_left _ (List.mem_append_left _ (List.mem_append_right _ (List.mem_append_right _ (List.mem_append_right _ (List.mem_append_right _ (List.mem_append_right _ (List.mem_append_right _ (List.mem_append_right _ (List.mem_append_right _ (List.mem_append_right _ (List.mem_append_right _ (List.mem_append_right _ (List.mem_append_right _ (List.mem_append_right _ (List.mem_append_right _ (List.mem_append_right _ (List.mem_append_right _ (List.mem_append_right _ (List.mem_append_right _ (List.mem_append_right _ (List.mem_append_right _ (List.mem_append_right _ (List.mem_append_right _ (List.mem_append_right _ (List.mem_append_right _ (List.mem_append_left _ h))))))))))))))))))))))))))))))))))
theorem mr_26 : ∀ w ∈ wsL_law0_r26, w ∈ wsL_law := fun _ h => mr_0 _ (by unfold wsL_law0; exact List.mem_append_left _ (List.mem_append_left _ (List.mem_append_left _ (List.mem_append_left _ (List.mem_append_left _ (List.mem_append_left _ (List.mem_append_left _ (List.mem_append_left _ (List.mem_append_left _ (List.mem_append_right _ (List.mem_append_right _ (List.mem_append_right _ (List.mem_append_right _ (List.mem_append_right _ (List.mem_append_right _ (List.mem_append_right _ (List.mem_append_right _ (List.mem_append_right _ (List.mem_append_right _ (List.mem_append_right _ (List.mem_append_right _ (List.mem_append_right _ (List.mem_append_right _ (List.mem_append_right _ (List.mem_append_right _ (List.mem_append_right _ (List.mem_append_right _ (List.mem_append_right _ (List.mem_append_right _ (List.mem_append_right _ (List.mem_append_right _ (List.mem_append_right _ (List.mem_append_right _ (List.mem_append_right _ (List.mem_append_left _ h)))))))))))))))))))))))))))))))))))
theorem mr_27 : ∀ w ∈ wsL_law0_r27, w ∈ wsL_law := fun _ h => mr_0 _ (by unfold wsL_law0; exact List.mem_append_left _ (List.mem_append_left _ (List.mem_append_left _ (List.mem_append_left _ (List.mem_append_left _ (List.mem_append_left _ (List.mem_append_left _ (List.mem_append_left _ (List.mem_append_left _ (List.mem_append_right _ (List.mem_append_right _ (List.mem_append_right _ (List.mem_append_right _ (List.mem_append_right _ (List.mem_append_right _ (List.mem_append_right _ (List.mem_append_right _ (List.mem_append_right _ (List.mem_append_right _ (List.mem_append_right _ (List.mem_append_right _ (List.mem_append_right _ (List.mem_append_right _ (List.mem_append_right _ (List.mem_append_right _ (List.mem_append_right _ (List.mem_append_right _ (List.mem_append_right _ (List.mem_append_right _ (List.mem_append_right _ (List.mem_append_right _ (List.mem_append_right _ (List.mem_append_right _ (List.mem_append_right _ (List.mem_append_right _ (List.mem_append_left _ h))))))))))))))))))))))))))))))))))))
theorem mr_28 : ∀ w ∈ wsL_law0_r28, w ∈ wsL_law := fun _ h => mr_0 _ (by unfold wsL_law0; exact List.mem_append_left _ (List.mem_append_left _ (List.mem_append_left _ (List.mem_append_left _ (List.mem_append_left _ (List.mem_append_left _ (List.mem_append_left _ (List.mem_append_left _ (List.mem_append_left _ (List.mem_append_right _ (List.mem_append_right _ (List.mem_append_right _ (List.mem_append_right _ (List.mem_append_right _ (List.mem_append_right _ (List.mem_append_right _ (List.mem_append_right _ (List.mem_append_right _ (List.mem_append_right _ (List.mem_append_right _ (List.mem_append_right _ (List.mem_append_right _ (List.mem_append_right _ (List.mem_append_right _ (List.mem_append_right _ (List.mem_append_right _ (List.mem_append_right _ (List.mem_append_right _ (List.mem_append_right _ (List.mem_append_right _ (List.mem_append_right _ (List.mem_append_right _ (List.mem_append_right _ (List.mem_append_right _ (List.mem_append_right _ (List.mem_append_right _ (List.mem_append_left _ h)))))))))))))))))))))))))))))))))))))
theorem mr_29 : ∀ w ∈ wsL_law0_r29, w ∈ wsL_law := fun _ h => mr_0 _ (by unfold wsL_law0; exact List.mem_append_left _ (List.mem_append_left _ (List.mem_append_left _ (List.mem_append_left _ (List.mem_append_left _ (List.mem_append_left _ (List.mem_append_left _ (List.mem_append_left _ (List.mem_append_left _ (List.mem_append_right _ (List.mem_append_right _ (List.mem_append_right _ (List.mem_append_right _ (List.mem_append_right _ (List.mem_append_right _ (List.mem_append_right _ (List.mem_append_right _ (List.mem_append_right _ (List.mem_append_right _ (List.mem_append_right _ (List.mem_append_right _ (List.mem_append_right _ (List.mem_append_right _ (List.mem_append_right _ (List.mem_append_right _ (List.mem_append_right _ (List.mem_append_right _ (List.mem_append_right _ (List.mem_append_right _ (List.mem_append_right _ (List.mem_append_right _ (List.mem_append_right _ (List.mem_append_right _ (List.mem_append_right _ (List.mem_append_right _ (List.mem_append_right _ (List.mem_append_right _ (List.mem_append_left _ h))))))))))))))))))))))))))))))))))))))
theorem mr_30 : ∀ w ∈ wsL_law0_r30, w ∈ wsL_law := fun _ h => mr_0 _ (by unfold wsL_law0; exact List.mem_append_left _ (List.mem_append_left _ (List.mem_append_left _ (List.mem_append_left _ (List.mem_append_left _ (List.mem_append_left _ (List.mem_append_left _ (List.mem_append_left _ (List.mem_append_left _ (List.mem_append_right _ (List.mem_append_right _ (List.mem_append_right _ (List.mem_append_right _ (List.mem_append_right _ (List.mem_append_right _ (List.mem_append_right _ (List.mem_append_right _ (List.mem_append_right _ (List.mem_append_right _ (List.mem_append_right _ (List.mem_append_right _ (List.mem_append_right _ (List.mem_append_right _ (List.mem_append_right _ (List.mem_append_right _ (List.mem_append_right _ (List.mem_append_right _ (List.mem_append_right _ (List.mem_append_right _ (List.mem_append_right _ (List.mem_append_right _ (List.mem_append_right _ (List.mem_append_right _ (List.mem_append_right _ (List.mem_append_right _ (List.mem_append_right _ (List.mem_append_right _ (List.mem_append_right _ (List.mem_append_left _ h)))))))))))))))))))))))))))))))))))))))
theorem mr_31 : ∀ w ∈ wsL_law0_r31, w ∈ wsL_law := fun _ h => mr_0 _ (by unfold wsL_law0; exact List.mem_append_left _ (List.mem_append_left _ (List.mem_append_left _ (List.mem_append_left _ (List.mem_append_left _ (List.mem_append_left _ (List.mem_append_left _ (List.mem_append_left _ (List.mem_append_left _ (List.mem_append_right _ (List.mem_append_right _ (List.mem_append_right _ (List.mem_append_right _ (List.mem_append_right _ (List.mem_append_right _ (List.mem_append_right _ (List.mem_append_right _ (List.mem_append_right _ (List.mem_append_right _ (List.mem_append_right _ (List.mem_append_right _ (List.mem_append_right _ (List.mem_append_right _ (List.mem_append_right _ (List.mem_append_right _ (List.mem_append_right _ (List.mem_append_right _ (List.mem_append_right _ (List.mem_append_right _ (List.mem_append_right _ (List.mem_append_right _ (List.mem_append_right _ (List.mem_append_right _ (List.mem_append_right _ (List.mem_append_right _ (List.mem_append_right _ (List.mem_append_right _ (List.mem_append_right _ (List.mem_append_right _ (List.mem_append_left _ h))))))))))))))))))))))))))))))))))))))))
theorem mr_32 : ∀ w ∈ wsL_law0_r32, w ∈ wsL_law := fun _ h => mr_0 _ (by unfold wsL_law0; exact List.mem_append_left _ (List.mem_append_left _ (List.mem_append_left _ (List.mem_append_left _ (List.mem_append_left _ (List.mem_append_left _ (List.mem_append_left _ (List.mem_append_left _ (List.mem_append_left _ (List.mem_append_right _ (List.mem_append_right _ (List.mem_append_right _ (List.mem_append_right _ (List.mem_append_right _ (List.mem_append_right _ (List.mem_append_right _ (List.mem_append_right _ (List.mem_append_right _ (List.mem_append_right _ (List.mem_append_right _ (List.mem_append_right _ (List.mem_append_right _ (List.mem_append_right _ (List.mem_append_right _ (List.mem_append_right _ (List.mem_append_right _ (List.mem_append_right _ (List.mem_append_right _ (List.mem_append_right _ (List.mem_append_right _ (List.mem_append_right _ (List.mem_append_right _ (List.mem_append_right _ (List.mem_append_right _ (List.mem_append_right _ (List.mem_append_right _ (List.mem_append_right _ (List.mem_append_right _ (List.mem_append_right _ (List.mem_append_right _ (List.mem_append_left _ h)))))))))))))))))))))))))))))))))))))))))
theorem mr_33 : ∀ w ∈ wsL_law0_r33, w ∈ wsL_law := fun _ h => mr_0 _ (by unfold wsL_law0; exact List.mem_append_left _ (List.mem_append_left _ (List.mem_append_left _ (List.mem_append_left _ (List.mem_append_left _ (List.mem_append_left _ (List.mem_append_left _ (List.mem_append_left _ (List.mem_append_left _ (List.mem_append_right _ (List.mem_append_right _ (List.mem_append_right _ (List.mem_append_right _ (List.mem_append_right _ (List.mem_append_right _ (List.mem_append_right _ (List.mem_append_right _ (List.mem_append_right _ (List.mem_append_right _ (List.mem_append_right _ (List.mem_append_right _ (List.mem_append_right _ (List.mem_append_right _ (List.mem_append_right _ (List.mem_append_right _ (List.mem_append_right _ (List.mem_append_right _ (List.mem_append_right _ (List.mem_append_right _ (List.mem_append_right _ (List.mem_append_right _ (List.mem_append_right _ (List.mem_append_right _ (List.mem_append_right _ (List.mem_append_right _ (List.mem_append_right _ (List.mem_append_right _ (List.mem_append_right _ (List.mem_append_right _ (List.mem_append_right _ (List.mem_append_right _ (List.mem_append_left _ h))))))))))))))))))))))))))))))))))))))))))
theorem mr_34 : ∀ w ∈ wsL_law0_r34, w ∈ wsL_law := fun _ h => mr_0 _ (by unfold wsL_law0; exact List.mem_append_left _ (List.mem_append_left _ (List.mem_append_left _ (List.mem_append_left _ (List.mem_append_left _ (List.mem_append_left _ (List.mem_append_left _ (List.mem_append_left _ (List.mem_append_left _ (List.mem_append_right _ (List.mem_append_right _ (List.mem_append_right _ (List.mem_append_right _ (List.mem_append_right _ (List.mem_append_right _ (List.mem_append_right _ (List.mem_append_right _ (List.mem_append_right _ (List.mem_append_right _ (List.mem_append_right _ (List.mem_append_right _ (List.mem_append_right _ (List.mem_append_right _ (List.mem_append_right _ (List.mem_append_right _ (List.mem_append_right _ (List.mem_append_right _ (List.mem_append_right _ (List.mem_append_right _ (List.mem_append_right _ (List.mem_append_right _ (List.mem_append_right _ (List.mem_append_right _ (List.mem_append_right _ (List.mem_append_right _ (List.mem_append_right _ (List.mem_append_right _ (List.mem_append_right _ (List.mem_append_right _ (List.mem_append_right _ (List.mem_append_right _ (List.mem_append_right _ (List.mem_append_left _ h)))))))))))))))))))))))))))))))))))))))))))
theorem mr_35 : ∀ w ∈ wsL_law0_r35, w ∈ wsL_law := fun _ h => mr_0 _ (by unfold wsL_law0; exact List.mem_append_left _ (List.mem_append_left _ (List.mem_append_left _ (List.mem_append_left _ (List.mem_append_left _ (List.mem_append_left _ (List.mem_append_left _ (List.mem_append_left _ (List.mem_append_left _ (List.mem_append_right _ (List.mem_append_right _ (List.mem_append_right _ (List.mem_append_right _ (List.mem_append_right _ (List.mem_append_right _ (List.mem_append_right _ (List.mem_append_right _ (List.mem_append_right _ (List.mem_append_right _ (List.mem_append_right _ (List.mem_append_right _ (List.mem_append_right _ (List.mem_append_right _ (List.mem_append_right _ (List.mem_append_right _ (List.mem_append_right _ (List.mem_append_right _ (List.mem_append_right _ (List.mem_append_right _ (List.mem_append_right _ (List.mem_append_right _ (List.mem_append_right _ (List.mem_append_right _ (List.mem_append_right _ (List.mem_append_right _ (List.mem_append_right _ (List.mem_append_right _ (List.mem_append_right _ (List.mem_append_right _ (List.mem_append_right _ (List.mem_append_right _ (List.mem_append_right _ (List.mem_append_right _ (List.mem_append_left _ h))))))))))))))))))))))))))))))))))))))))))))
theorem mr_36 : ∀ w ∈ wsL_law0_r36, w ∈ wsL_law := fun _ h => mr_0 _ (by unfold wsL_law0; exact List.mem_append_left _ (List.mem_append_left _ (List.mem_append_left _ (List.mem_append_left _ (List.mem_append_left _ (List.mem_append_left _ (List.mem_append_left _ (List.mem_append_left _ (List.mem_append_left _ (List.mem_append_right _ (List.mem_append_right _ (List.mem_append_right _ (List.mem_append_right _ (List.mem_append_right _ (List.mem_append_right _ (List.mem_append_right _ (List.mem_append_right _ (List.mem_append_right _ (List.mem_append_right _ (List.mem_append_right _ (List.mem_append_right _ (List.mem_append_right _ (List.mem_append_right _ (List.mem_append_right _ (List.mem_append_right _ (List.mem_append_right _ (List.mem_append_right _ (List.mem_append_right _ (List.mem_append_right _ (List.mem_append_right _ (List.mem_append_right _ (List.mem_append_right _ (List.mem_append_right _ (List.mem_append_right _ (List.mem_append_right _ (List.mem_append_right _ (List.mem_append_right _ (List.mem_append_right _ (List.mem_append_right _ (List.mem_append_right _ (List.mem_append_right _ (List.mem_append_right _ (List.mem_append_right _ (List.mem_append_right _ (h)))))))))))))))))))))))))))))))))))))))))))))
theorem u_1_0 : (Cond.classLink RL 8 RX6) ∈ wsL_law := mr_1 _ (List.mem_of_getElem? (i := 0) rfl)
theorem u_1_1 : (Cond.instantiable RX6 6) ∈ wsL_law := mr_1 _ (List.mem_of_getElem? (i := 1) rfl)
theorem u_1_2 : (Cond.initialized RX6) ∈ wsL_law := mr_1 _ (List.mem_of_getElem? (i := 2) rfl)
theorem u_1_3 : (Cond.classLink RL 74 RX7) ∈ wsL_law := mr_1 _ (List.mem_of_getElem? (i := 3) rfl)
theorem u_1_4 : (Cond.instantiable RX7 15) ∈ wsL_law := mr_1 _ (List.mem_of_getElem? (i := 4) rfl)
theorem u_1_5 : (Cond.initialized RX7) ∈ wsL_law := mr_1 _ (List.mem_of_getElem? (i := 5) rfl)
theorem u_1_6 : (Cond.arrayClass .long) ∈ wsL_law := mr_1 _ (List.mem_of_getElem? (i := 6) rfl)
theorem u_1_7 : (Cond.methodLink RL 73 yX6_init) ∈ wsL_law := mr_1 _ (List.mem_of_getElem? (i := 7) rfl)
theorem u_1_8 : (Cond.instanceMethod yX6_init) ∈ wsL_law := mr_1 _ (List.mem_of_getElem? (i := 8) rfl)
theorem u_1_9 : (Cond.code yX6_init cX6_init 2 none) ∈ wsL_law := mr_1 _ (List.mem_of_getElem? (i := 9) rfl)
theorem u_1_10 : (Cond.methodLink RX6 1 objectInit) ∈ wsL_law := mr_1 _ (List.mem_of_getElem? (i := 10) rfl)
theorem u_1_11 : (Cond.instanceMethod objectInit) ∈ wsL_law := mr_1 _ (List.mem_of_getElem? (i := 11) rfl)
theorem u_1_12 : (Cond.code objectInit ⟨#[0xb1]⟩ 1 none) ∈ wsL_law := mr_1 _ (List.mem_of_getElem? (i := 12) rfl)
theorem u_1_13 : (Cond.classLink RX6 7 RX1) ∈ wsL_law := mr_1 _ (List.mem_of_getElem? (i := 13) rfl)
theorem u_1_14 : (Cond.instantiable RX1 7) ∈ wsL_law := mr_1 _ (List.mem_of_getElem? (i := 14) rfl)
theorem u_1_15 : (Cond.initialized RX1) ∈ wsL_law := mr_1 _ (List.mem_of_getElem? (i := 15) rfl)
theorem u_1_16 : (Cond.fieldLink RX6 10 "CanyonBall" "now" "LCanyonBall$Canyon;") ∈ wsL_law := mr_1 _ (List.mem_of_getElem? (i := 16) rfl)
theorem u_1_17 : (Cond.classLink RX6 16 RX3) ∈ wsL_law := mr_1 _ (List.mem_of_getElem? (i := 17) rfl)
theorem u_1_18 : (Cond.instantiable RX3 2) ∈ wsL_law := mr_1 _ (List.mem_of_getElem? (i := 18) rfl)
theorem u_1_19 : (Cond.initialized RX3) ∈ wsL_law := mr_1 _ (List.mem_of_getElem? (i := 19) rfl)
theorem u_1_20 : (Cond.fieldLink RX6 19 "CanyonBall" "history" "LCanyonBall$History;") ∈ wsL_law := mr_1 _ (List.mem_of_getElem? (i := 20) rfl)
theorem u_1_21 : (Cond.fieldLink RX6 23 "CanyonBall" "slots" "[LCanyonBall$Canyon;") ∈ wsL_law := mr_1 _ (List.mem_of_getElem? (i := 21) rfl)
theorem u_1_22 : (Cond.arrayClass .boolean) ∈ wsL_law := mr_1 _ (List.mem_of_getElem? (i := 22) rfl)
theorem u_1_23 : (Cond.fieldLink RX6 27 "CanyonBall" "isKept" "[Z") ∈ wsL_law := mr_1 _ (List.mem_of_getElem? (i := 23) rfl)
theorem u_2_0 : (Cond.classLink RX6 31 RX5) ∈ wsL_law := mr_2 _ (List.mem_of_getElem? (i := 0) rfl)
theorem u_2_1 : (Cond.instantiable RX5 2) ∈ wsL_law := mr_2 _ (List.mem_of_getElem? (i := 1) rfl)
theorem u_2_2 : (Cond.initialized RX5) ∈ wsL_law := mr_2 _ (List.mem_of_getElem? (i := 2) rfl)
theorem u_2_3 : (Cond.fieldLink RX6 34 "CanyonBall" "text" "LCanyonBall$TurnText;") ∈ wsL_law := mr_2 _ (List.mem_of_getElem? (i := 3) rfl)
theorem u_2_4 : (Cond.classLink RX6 38 RX0) ∈ wsL_law := mr_2 _ (List.mem_of_getElem? (i := 4) rfl)
theorem u_2_5 : (Cond.instantiable RX0 3) ∈ wsL_law := mr_2 _ (List.mem_of_getElem? (i := 5) rfl)
theorem u_2_6 : (Cond.initialized RX0) ∈ wsL_law := mr_2 _ (List.mem_of_getElem? (i := 6) rfl)
theorem u_2_7 : (Cond.fieldLink RX6 41 "CanyonBall" "scratchBall" "LCanyonBall$Ball;") ∈ wsL_law := mr_2 _ (List.mem_of_getElem? (i := 7) rfl)
theorem u_2_8 : (Cond.methodLink RX6 9 yX1_init) ∈ wsL_law := mr_2 _ (List.mem_of_getElem? (i := 8) rfl)
theorem u_2_9 : (Cond.instanceMethod yX1_init) ∈ wsL_law := mr_2 _ (List.mem_of_getElem? (i := 9) rfl)
theorem u_2_10 : (Cond.code yX1_init cX1_init 2 none) ∈ wsL_law := mr_2 _ (List.mem_of_getElem? (i := 10) rfl)
theorem u_2_11 : (Cond.methodLink RX1 3 objectInit) ∈ wsL_law := mr_2 _ (List.mem_of_getElem? (i := 11) rfl)
theorem u_2_12 : (Cond.arrayClass .int) ∈ wsL_law := mr_2 _ (List.mem_of_getElem? (i := 12) rfl)
theorem u_2_13 : (Cond.fieldLink RX1 9 "CanyonBall$Canyon" "settings" "[I") ∈ wsL_law := mr_2 _ (List.mem_of_getElem? (i := 13) rfl)
theorem u_2_14 : (Cond.classLink RX1 15 RX0) ∈ wsL_law := mr_2 _ (List.mem_of_getElem? (i := 14) rfl)
theorem u_2_15 : (Cond.fieldLink RX1 18 "CanyonBall$Canyon" "ball" "LCanyonBall$Ball;") ∈ wsL_law := mr_2 _ (List.mem_of_getElem? (i := 15) rfl)
theorem u_2_16 : (Cond.classLink RX1 22 RX4) ∈ wsL_law := mr_2 _ (List.mem_of_getElem? (i := 16) rfl)
theorem u_2_17 : (Cond.fieldLink RX1 24 "CanyonBall$Canyon" "players" "[LCanyonBall$Player;") ∈ wsL_law := mr_2 _ (List.mem_of_getElem? (i := 17) rfl)
theorem u_2_18 : (Cond.classLink RX1 28 RX2) ∈ wsL_law := mr_2 _ (List.mem_of_getElem? (i := 18) rfl)
theorem u_2_19 : (Cond.fieldLink RX1 30 "CanyonBall$Canyon" "echoes" "[LCanyonBall$Echo;") ∈ wsL_law := mr_2 _ (List.mem_of_getElem? (i := 19) rfl)
theorem u_2_20 : (Cond.instantiable RX4 6) ∈ wsL_law := mr_2 _ (List.mem_of_getElem? (i := 20) rfl)
theorem u_2_21 : (Cond.initialized RX4) ∈ wsL_law := mr_2 _ (List.mem_of_getElem? (i := 21) rfl)
theorem u_2_22 : (Cond.instantiable RX2 5) ∈ wsL_law := mr_2 _ (List.mem_of_getElem? (i := 22) rfl)
theorem u_2_23 : (Cond.initialized RX2) ∈ wsL_law := mr_2 _ (List.mem_of_getElem? (i := 23) rfl)
theorem u_3_0 : (Cond.instanceMethod yX0_init) ∈ wsL_law := mr_3 _ (List.mem_of_getElem? (i := 0) rfl)
theorem u_3_1 : (Cond.code yX0_init cX0_init 1 none) ∈ wsL_law := mr_3 _ (List.mem_of_getElem? (i := 1) rfl)
theorem u_3_2 : (Cond.methodLink RX0 3 objectInit) ∈ wsL_law := mr_3 _ (List.mem_of_getElem? (i := 2) rfl)
theorem u_3_3 : (Cond.fieldLink RX0 9 "CanyonBall$Ball" "speed" "I") ∈ wsL_law := mr_3 _ (List.mem_of_getElem? (i := 3) rfl)
theorem u_3_4 : (Cond.fieldLink RX0 15 "CanyonBall$Ball" "isRight" "Z") ∈ wsL_law := mr_3 _ (List.mem_of_getElem? (i := 4) rfl)
theorem u_3_5 : (Cond.methodLink RX1 37 yX4_init) ∈ wsL_law := mr_3 _ (List.mem_of_getElem? (i := 5) rfl)
theorem u_3_6 : (Cond.instanceMethod yX4_init) ∈ wsL_law := mr_3 _ (List.mem_of_getElem? (i := 6) rfl)
theorem u_3_7 : (Cond.code yX4_init cX4_init 2 none) ∈ wsL_law := mr_3 _ (List.mem_of_getElem? (i := 7) rfl)
theorem u_3_8 : (Cond.methodLink RX4 1 objectInit) ∈ wsL_law := mr_3 _ (List.mem_of_getElem? (i := 8) rfl)
theorem u_3_9 : (Cond.fieldLink RX4 7 "CanyonBall$Player" "place" "I") ∈ wsL_law := mr_3 _ (List.mem_of_getElem? (i := 9) rfl)
theorem u_3_10 : (Cond.instanceMethod yX2_init) ∈ wsL_law := mr_3 _ (List.mem_of_getElem? (i := 10) rfl)
theorem u_3_11 : (Cond.code yX2_init cX2_init 1 none) ∈ wsL_law := mr_3 _ (List.mem_of_getElem? (i := 11) rfl)
theorem u_3_12 : (Cond.methodLink RX2 1 objectInit) ∈ wsL_law := mr_3 _ (List.mem_of_getElem? (i := 12) rfl)
theorem u_3_13 : (Cond.methodLink RX6 18 yX3_init) ∈ wsL_law := mr_3 _ (List.mem_of_getElem? (i := 13) rfl)
theorem u_3_14 : (Cond.instanceMethod yX3_init) ∈ wsL_law := mr_3 _ (List.mem_of_getElem? (i := 14) rfl)
theorem u_3_15 : (Cond.code yX3_init cX3_init 2 none) ∈ wsL_law := mr_3 _ (List.mem_of_getElem? (i := 15) rfl)
theorem u_3_16 : (Cond.methodLink RX3 1 objectInit) ∈ wsL_law := mr_3 _ (List.mem_of_getElem? (i := 16) rfl)
theorem u_3_17 : (Cond.classLink RX3 9 RX1) ∈ wsL_law := mr_3 _ (List.mem_of_getElem? (i := 17) rfl)
theorem u_3_18 : (Cond.fieldLink RX3 11 "CanyonBall$History" "states" "[LCanyonBall$Canyon;") ∈ wsL_law := mr_3 _ (List.mem_of_getElem? (i := 18) rfl)
theorem u_3_19 : (Cond.methodLink RX3 15 yX1_init) ∈ wsL_law := mr_3 _ (List.mem_of_getElem? (i := 19) rfl)
theorem u_3_20 : (Cond.instanceMethod yX5_init) ∈ wsL_law := mr_3 _ (List.mem_of_getElem? (i := 20) rfl)
theorem u_3_21 : (Cond.code yX5_init cX5_init 1 none) ∈ wsL_law := mr_3 _ (List.mem_of_getElem? (i := 21) rfl)
theorem u_3_22 : (Cond.methodLink RX5 3 objectInit) ∈ wsL_law := mr_3 _ (List.mem_of_getElem? (i := 22) rfl)
theorem u_3_23 : (Cond.fieldLink RX5 11 "CanyonBall$TurnText" "codes" "[I") ∈ wsL_law := mr_3 _ (List.mem_of_getElem? (i := 23) rfl)
theorem u_4_0 : (Cond.methodLink RL 76 yX7_init) ∈ wsL_law := mr_4 _ (List.mem_of_getElem? (i := 0) rfl)
theorem u_4_1 : (Cond.instanceMethod yX7_init) ∈ wsL_law := mr_4 _ (List.mem_of_getElem? (i := 1) rfl)
theorem u_4_2 : (Cond.code yX7_init cX7_init 2 none) ∈ wsL_law := mr_4 _ (List.mem_of_getElem? (i := 2) rfl)
theorem u_4_3 : (Cond.methodLink RX7 1 objectInit) ∈ wsL_law := mr_4 _ (List.mem_of_getElem? (i := 3) rfl)
theorem u_4_4 : (Cond.fieldLink RX7 7 "CanyonBallModel" "state" "[I") ∈ wsL_law := mr_4 _ (List.mem_of_getElem? (i := 4) rfl)
theorem u_4_5 : (Cond.fieldLink RX7 13 "CanyonBallModel" "saved" "[I") ∈ wsL_law := mr_4 _ (List.mem_of_getElem? (i := 5) rfl)
theorem u_4_6 : (Cond.fieldLink RX7 16 "CanyonBallModel" "slots" "[I") ∈ wsL_law := mr_4 _ (List.mem_of_getElem? (i := 6) rfl)
theorem u_4_7 : (Cond.fieldLink RX7 19 "CanyonBallModel" "isKept" "[I") ∈ wsL_law := mr_4 _ (List.mem_of_getElem? (i := 7) rfl)
theorem u_4_8 : (Cond.fieldLink RX7 22 "CanyonBallModel" "buffer" "[I") ∈ wsL_law := mr_4 _ (List.mem_of_getElem? (i := 8) rfl)
theorem u_4_9 : (Cond.methodLink RL 77 yL_call) ∈ wsL_law := mr_4 _ (List.mem_of_getElem? (i := 9) rfl)
theorem u_4_10 : (Cond.static yL_call) ∈ wsL_law := mr_4 _ (List.mem_of_getElem? (i := 10) rfl)
theorem u_4_11 : (Cond.initialized RL) ∈ wsL_law := mr_4 _ (List.mem_of_getElem? (i := 11) rfl)
theorem u_4_12 : (Cond.codeWith yL_call cL_call 5 (some .int) [(0, 10, 13, 13), (0, 10, 17, 15)]) ∈ wsL_law := mr_4 _ (List.mem_of_getElem? (i := 12) rfl)
theorem u_4_13 : (Cond.classLink RL 13 "java/lang/IndexOutOfBoundsException") ∈ wsL_law := mr_4 _ (List.mem_of_getElem? (i := 13) rfl)
theorem u_4_14 : (Cond.classLink RL 15 "java/lang/IllegalArgumentException") ∈ wsL_law := mr_4 _ (List.mem_of_getElem? (i := 14) rfl)
theorem u_4_15 : (Cond.methodLink RL 7 yX6_call) ∈ wsL_law := mr_4 _ (List.mem_of_getElem? (i := 15) rfl)
theorem u_4_16 : (Cond.instanceMethod yX6_call) ∈ wsL_law := mr_4 _ (List.mem_of_getElem? (i := 16) rfl)
theorem u_4_17 : (Cond.selects RX6 yX6_call yX6_call) ∈ wsL_law := mr_4 _ (List.mem_of_getElem? (i := 17) rfl)
theorem u_4_18 : (Cond.code yX6_call cX6_call 3 (some .int)) ∈ wsL_law := mr_4 _ (List.mem_of_getElem? (i := 18) rfl)
theorem u_4_19 : (Cond.methodLink RX6 45 yX6_checkPlayer) ∈ wsL_law := mr_4 _ (List.mem_of_getElem? (i := 19) rfl)
theorem u_4_20 : (Cond.static yX6_checkPlayer) ∈ wsL_law := mr_4 _ (List.mem_of_getElem? (i := 20) rfl)
theorem u_4_21 : (Cond.code yX6_checkPlayer cX6_checkPlayer 1 none) ∈ wsL_law := mr_4 _ (List.mem_of_getElem? (i := 21) rfl)
theorem u_4_22 : (Cond.classLink RX6 224 "java/lang/IndexOutOfBoundsException") ∈ wsL_law := mr_4 _ (List.mem_of_getElem? (i := 22) rfl)
theorem u_4_23 : (Cond.initialized "java/lang/IndexOutOfBoundsException") ∈ wsL_law := mr_4 _ (List.mem_of_getElem? (i := 23) rfl)
theorem u_5_0 : (Cond.methodLink RX6 49 yX6_checkRange) ∈ wsL_law := mr_5 _ (List.mem_of_getElem? (i := 0) rfl)
theorem u_5_1 : (Cond.static yX6_checkRange) ∈ wsL_law := mr_5 _ (List.mem_of_getElem? (i := 1) rfl)
theorem u_5_2 : (Cond.code yX6_checkRange cX6_checkRange 3 none) ∈ wsL_law := mr_5 _ (List.mem_of_getElem? (i := 2) rfl)
theorem u_5_3 : (Cond.classLink RX6 133 "java/lang/IllegalArgumentException") ∈ wsL_law := mr_5 _ (List.mem_of_getElem? (i := 3) rfl)
theorem u_5_4 : (Cond.initialized "java/lang/IllegalArgumentException") ∈ wsL_law := mr_5 _ (List.mem_of_getElem? (i := 4) rfl)
theorem u_5_5 : (Cond.methodLink RX6 53 yX3_save) ∈ wsL_law := mr_5 _ (List.mem_of_getElem? (i := 5) rfl)
theorem u_5_6 : (Cond.instanceMethod yX3_save) ∈ wsL_law := mr_5 _ (List.mem_of_getElem? (i := 6) rfl)
theorem u_5_7 : (Cond.selects RX3 yX3_save yX3_save) ∈ wsL_law := mr_5 _ (List.mem_of_getElem? (i := 7) rfl)
theorem u_5_8 : (Cond.code yX3_save cX3_save 2 none) ∈ wsL_law := mr_5 _ (List.mem_of_getElem? (i := 8) rfl)
theorem u_5_9 : (Cond.fieldLink RX3 16 "CanyonBall$History" "size" "I") ∈ wsL_law := mr_5 _ (List.mem_of_getElem? (i := 9) rfl)
theorem u_5_10 : (Cond.methodLink RX3 20 yX3_dropOldest) ∈ wsL_law := mr_5 _ (List.mem_of_getElem? (i := 10) rfl)
theorem u_5_11 : (Cond.instanceMethod yX3_dropOldest) ∈ wsL_law := mr_5 _ (List.mem_of_getElem? (i := 11) rfl)
theorem u_5_12 : (Cond.selects RX3 yX3_dropOldest yX3_dropOldest) ∈ wsL_law := mr_5 _ (List.mem_of_getElem? (i := 12) rfl)
theorem u_5_13 : (Cond.code yX3_dropOldest cX3_dropOldest 3 none) ∈ wsL_law := mr_5 _ (List.mem_of_getElem? (i := 13) rfl)
theorem u_5_14 : (Cond.methodLink RX3 23 yX1_copyFrom) ∈ wsL_law := mr_5 _ (List.mem_of_getElem? (i := 14) rfl)
theorem u_5_15 : (Cond.instanceMethod yX1_copyFrom) ∈ wsL_law := mr_5 _ (List.mem_of_getElem? (i := 15) rfl)
theorem u_5_16 : (Cond.selects RX1 yX1_copyFrom yX1_copyFrom) ∈ wsL_law := mr_5 _ (List.mem_of_getElem? (i := 16) rfl)
theorem u_5_17 : (Cond.code yX1_copyFrom cX1_copyFrom 3 none) ∈ wsL_law := mr_5 _ (List.mem_of_getElem? (i := 17) rfl)
theorem u_5_18 : (Cond.fieldLink RX1 41 "CanyonBall$Canyon" "clock" "I") ∈ wsL_law := mr_5 _ (List.mem_of_getElem? (i := 18) rfl)
theorem u_5_19 : (Cond.fieldLink RX1 45 "CanyonBall$Canyon" "refused" "I") ∈ wsL_law := mr_5 _ (List.mem_of_getElem? (i := 19) rfl)
theorem u_5_20 : (Cond.fieldLink RX1 48 "CanyonBall$Canyon" "echoCount" "I") ∈ wsL_law := mr_5 _ (List.mem_of_getElem? (i := 20) rfl)
theorem u_5_21 : (Cond.methodLink RX1 51 yX0_copyFrom) ∈ wsL_law := mr_5 _ (List.mem_of_getElem? (i := 21) rfl)
theorem u_5_22 : (Cond.instanceMethod yX0_copyFrom) ∈ wsL_law := mr_5 _ (List.mem_of_getElem? (i := 22) rfl)
theorem u_5_23 : (Cond.selects RX0 yX0_copyFrom yX0_copyFrom) ∈ wsL_law := mr_5 _ (List.mem_of_getElem? (i := 23) rfl)
theorem u_6_0 : (Cond.code yX0_copyFrom cX0_copyFrom 2 none) ∈ wsL_law := mr_6 _ (List.mem_of_getElem? (i := 0) rfl)
theorem u_6_1 : (Cond.fieldLink RX0 19 "CanyonBall$Ball" "place" "I") ∈ wsL_law := mr_6 _ (List.mem_of_getElem? (i := 1) rfl)
theorem u_6_2 : (Cond.methodLink RX1 55 yX4_copyFrom) ∈ wsL_law := mr_6 _ (List.mem_of_getElem? (i := 2) rfl)
theorem u_6_3 : (Cond.instanceMethod yX4_copyFrom) ∈ wsL_law := mr_6 _ (List.mem_of_getElem? (i := 3) rfl)
theorem u_6_4 : (Cond.selects RX4 yX4_copyFrom yX4_copyFrom) ∈ wsL_law := mr_6 _ (List.mem_of_getElem? (i := 4) rfl)
theorem u_6_5 : (Cond.code yX4_copyFrom cX4_copyFrom 2 none) ∈ wsL_law := mr_6 _ (List.mem_of_getElem? (i := 5) rfl)
theorem u_6_6 : (Cond.fieldLink RX4 13 "CanyonBall$Player" "caught" "I") ∈ wsL_law := mr_6 _ (List.mem_of_getElem? (i := 6) rfl)
theorem u_6_7 : (Cond.fieldLink RX4 16 "CanyonBall$Player" "calls" "I") ∈ wsL_law := mr_6 _ (List.mem_of_getElem? (i := 7) rfl)
theorem u_6_8 : (Cond.fieldLink RX4 19 "CanyonBall$Player" "answered" "I") ∈ wsL_law := mr_6 _ (List.mem_of_getElem? (i := 8) rfl)
theorem u_6_9 : (Cond.fieldLink RX4 22 "CanyonBall$Player" "clashed" "I") ∈ wsL_law := mr_6 _ (List.mem_of_getElem? (i := 9) rfl)
theorem u_6_10 : (Cond.fieldLink RX4 25 "CanyonBall$Player" "lost" "I") ∈ wsL_law := mr_6 _ (List.mem_of_getElem? (i := 10) rfl)
theorem u_6_11 : (Cond.methodLink RX1 58 yX2_copyFrom) ∈ wsL_law := mr_6 _ (List.mem_of_getElem? (i := 11) rfl)
theorem u_6_12 : (Cond.instanceMethod yX2_copyFrom) ∈ wsL_law := mr_6 _ (List.mem_of_getElem? (i := 12) rfl)
theorem u_6_13 : (Cond.selects RX2 yX2_copyFrom yX2_copyFrom) ∈ wsL_law := mr_6 _ (List.mem_of_getElem? (i := 13) rfl)
theorem u_6_14 : (Cond.code yX2_copyFrom cX2_copyFrom 2 none) ∈ wsL_law := mr_6 _ (List.mem_of_getElem? (i := 14) rfl)
theorem u_6_15 : (Cond.fieldLink RX2 7 "CanyonBall$Echo" "player" "I") ∈ wsL_law := mr_6 _ (List.mem_of_getElem? (i := 15) rfl)
theorem u_6_16 : (Cond.fieldLink RX2 13 "CanyonBall$Echo" "place" "I") ∈ wsL_law := mr_6 _ (List.mem_of_getElem? (i := 16) rfl)
theorem u_6_17 : (Cond.fieldLink RX2 16 "CanyonBall$Echo" "word" "I") ∈ wsL_law := mr_6 _ (List.mem_of_getElem? (i := 17) rfl)
theorem u_6_18 : (Cond.fieldLink RX2 19 "CanyonBall$Echo" "due" "I") ∈ wsL_law := mr_6 _ (List.mem_of_getElem? (i := 18) rfl)
theorem u_6_19 : (Cond.fieldLink RX2 22 "CanyonBall$Echo" "wall" "I") ∈ wsL_law := mr_6 _ (List.mem_of_getElem? (i := 19) rfl)
theorem u_6_20 : (Cond.methodLink RX6 57 yX1_sendEchoes) ∈ wsL_law := mr_6 _ (List.mem_of_getElem? (i := 20) rfl)
theorem u_6_21 : (Cond.instanceMethod yX1_sendEchoes) ∈ wsL_law := mr_6 _ (List.mem_of_getElem? (i := 21) rfl)
theorem u_6_22 : (Cond.selects RX1 yX1_sendEchoes yX1_sendEchoes) ∈ wsL_law := mr_6 _ (List.mem_of_getElem? (i := 22) rfl)
theorem u_6_23 : (Cond.code yX1_sendEchoes cX1_sendEchoes 4 (some .int)) ∈ wsL_law := mr_6 _ (List.mem_of_getElem? (i := 23) rfl)
theorem u_7_0 : (Cond.fieldLink RX1 84 "CanyonBall$Player" "calls" "I") ∈ wsL_law := mr_7 _ (List.mem_of_getElem? (i := 0) rfl)
theorem u_7_1 : (Cond.fieldLink RX1 64 "CanyonBall$Player" "place" "I") ∈ wsL_law := mr_7 _ (List.mem_of_getElem? (i := 1) rfl)
theorem u_7_2 : (Cond.methodLink RX1 94 Lib.Math.min.name) ∈ wsL_law := mr_7 _ (List.mem_of_getElem? (i := 2) rfl)
theorem u_7_3 : (Cond.static Lib.Math.min.name) ∈ wsL_law := mr_7 _ (List.mem_of_getElem? (i := 3) rfl)
theorem u_7_4 : (Cond.initialized "java/lang/Math") ∈ wsL_law := mr_7 _ (List.mem_of_getElem? (i := 4) rfl)
theorem u_7_5 : (Cond.code Lib.Math.min.name Lib.Math.min.code 2 (some .int)) ∈ wsL_law := mr_7 _ (List.mem_of_getElem? (i := 5) rfl)
theorem u_7_6 : (Cond.methodLink RX1 80 yX1_echoesOf) ∈ wsL_law := mr_7 _ (List.mem_of_getElem? (i := 6) rfl)
theorem u_7_7 : (Cond.instanceMethod yX1_echoesOf) ∈ wsL_law := mr_7 _ (List.mem_of_getElem? (i := 7) rfl)
theorem u_7_8 : (Cond.selects RX1 yX1_echoesOf yX1_echoesOf) ∈ wsL_law := mr_7 _ (List.mem_of_getElem? (i := 8) rfl)
theorem u_7_9 : (Cond.code yX1_echoesOf cX1_echoesOf 4 (some .int)) ∈ wsL_law := mr_7 _ (List.mem_of_getElem? (i := 9) rfl)
theorem u_7_10 : (Cond.fieldLink RX1 77 "CanyonBall$Echo" "player" "I") ∈ wsL_law := mr_7 _ (List.mem_of_getElem? (i := 10) rfl)
theorem u_7_11 : (Cond.methodLink RX1 87 yX1_addEcho) ∈ wsL_law := mr_7 _ (List.mem_of_getElem? (i := 11) rfl)
theorem u_7_12 : (Cond.instanceMethod yX1_addEcho) ∈ wsL_law := mr_7 _ (List.mem_of_getElem? (i := 12) rfl)
theorem u_7_13 : (Cond.selects RX1 yX1_addEcho yX1_addEcho) ∈ wsL_law := mr_7 _ (List.mem_of_getElem? (i := 13) rfl)
theorem u_7_14 : (Cond.code yX1_addEcho cX1_addEcho 6 none) ∈ wsL_law := mr_7 _ (List.mem_of_getElem? (i := 14) rfl)
theorem u_7_15 : (Cond.fieldLink RX1 71 "CanyonBall$Echo" "place" "I") ∈ wsL_law := mr_7 _ (List.mem_of_getElem? (i := 15) rfl)
theorem u_7_16 : (Cond.fieldLink RX1 97 "CanyonBall$Echo" "word" "I") ∈ wsL_law := mr_7 _ (List.mem_of_getElem? (i := 16) rfl)
theorem u_7_17 : (Cond.fieldLink RX1 100 "CanyonBall$Echo" "wall" "I") ∈ wsL_law := mr_7 _ (List.mem_of_getElem? (i := 17) rfl)
theorem u_7_18 : (Cond.fieldLink RX1 103 "CanyonBall$Echo" "due" "I") ∈ wsL_law := mr_7 _ (List.mem_of_getElem? (i := 18) rfl)
theorem u_7_19 : (Cond.methodLink RX1 91 yX1_echoTime) ∈ wsL_law := mr_7 _ (List.mem_of_getElem? (i := 19) rfl)
theorem u_7_20 : (Cond.instanceMethod yX1_echoTime) ∈ wsL_law := mr_7 _ (List.mem_of_getElem? (i := 20) rfl)
theorem u_7_21 : (Cond.selects RX1 yX1_echoTime yX1_echoTime) ∈ wsL_law := mr_7 _ (List.mem_of_getElem? (i := 21) rfl)
theorem u_7_22 : (Cond.code yX1_echoTime cX1_echoTime 6 (some .int)) ∈ wsL_law := mr_7 _ (List.mem_of_getElem? (i := 22) rfl)
theorem u_7_23 : (Cond.methodLink RX1 65 Lib.Math.max.name) ∈ wsL_law := mr_7 _ (List.mem_of_getElem? (i := 23) rfl)
theorem u_8_0 : (Cond.static Lib.Math.max.name) ∈ wsL_law := mr_8 _ (List.mem_of_getElem? (i := 0) rfl)
theorem u_8_1 : (Cond.code Lib.Math.max.name Lib.Math.max.code 2 (some .int)) ∈ wsL_law := mr_8 _ (List.mem_of_getElem? (i := 1) rfl)
theorem u_8_2 : (Cond.methodLink RX1 73 yX1_lastPlace) ∈ wsL_law := mr_8 _ (List.mem_of_getElem? (i := 2) rfl)
theorem u_8_3 : (Cond.instanceMethod yX1_lastPlace) ∈ wsL_law := mr_8 _ (List.mem_of_getElem? (i := 3) rfl)
theorem u_8_4 : (Cond.selects RX1 yX1_lastPlace yX1_lastPlace) ∈ wsL_law := mr_8 _ (List.mem_of_getElem? (i := 4) rfl)
theorem u_8_5 : (Cond.code yX1_lastPlace cX1_lastPlace 1 (some .int)) ∈ wsL_law := mr_8 _ (List.mem_of_getElem? (i := 5) rfl)
theorem u_8_6 : (Cond.methodLink RL 82 yX7_call) ∈ wsL_law := mr_8 _ (List.mem_of_getElem? (i := 6) rfl)
theorem u_8_7 : (Cond.instanceMethod yX7_call) ∈ wsL_law := mr_8 _ (List.mem_of_getElem? (i := 7) rfl)
theorem u_8_8 : (Cond.selects RX7 yX7_call yX7_call) ∈ wsL_law := mr_8 _ (List.mem_of_getElem? (i := 8) rfl)
theorem u_8_9 : (Cond.code yX7_call cX7_call 3 (some .int)) ∈ wsL_law := mr_8 _ (List.mem_of_getElem? (i := 9) rfl)
theorem u_8_10 : (Cond.fieldLink RX7 25 "CanyonBallModel" "thrown" "I") ∈ wsL_law := mr_8 _ (List.mem_of_getElem? (i := 10) rfl)
theorem u_8_11 : (Cond.methodLink RX7 91 yX7_isPlayer) ∈ wsL_law := mr_8 _ (List.mem_of_getElem? (i := 11) rfl)
theorem u_8_12 : (Cond.static yX7_isPlayer) ∈ wsL_law := mr_8 _ (List.mem_of_getElem? (i := 12) rfl)
theorem u_8_13 : (Cond.code yX7_isPlayer cX7_isPlayer 1 (some .boolean)) ∈ wsL_law := mr_8 _ (List.mem_of_getElem? (i := 13) rfl)
theorem u_8_14 : (Cond.methodLink RX7 29 yX7_within) ∈ wsL_law := mr_8 _ (List.mem_of_getElem? (i := 14) rfl)
theorem u_8_15 : (Cond.static yX7_within) ∈ wsL_law := mr_8 _ (List.mem_of_getElem? (i := 15) rfl)
theorem u_8_16 : (Cond.code yX7_within cX7_within 3 (some .boolean)) ∈ wsL_law := mr_8 _ (List.mem_of_getElem? (i := 16) rfl)
theorem u_8_17 : (Cond.methodLink RX7 40 yX7_fails) ∈ wsL_law := mr_8 _ (List.mem_of_getElem? (i := 17) rfl)
theorem u_8_18 : (Cond.instanceMethod yX7_fails) ∈ wsL_law := mr_8 _ (List.mem_of_getElem? (i := 18) rfl)
theorem u_8_19 : (Cond.selects RX7 yX7_fails yX7_fails) ∈ wsL_law := mr_8 _ (List.mem_of_getElem? (i := 19) rfl)
theorem u_8_20 : (Cond.code yX7_fails cX7_fails 2 (some .int)) ∈ wsL_law := mr_8 _ (List.mem_of_getElem? (i := 20) rfl)
theorem u_8_21 : (Cond.methodLink RX7 44 yX7_save) ∈ wsL_law := mr_8 _ (List.mem_of_getElem? (i := 21) rfl)
theorem u_8_22 : (Cond.instanceMethod yX7_save) ∈ wsL_law := mr_8 _ (List.mem_of_getElem? (i := 22) rfl)
theorem u_8_23 : (Cond.selects RX7 yX7_save yX7_save) ∈ wsL_law := mr_8 _ (List.mem_of_getElem? (i := 23) rfl)
theorem u_9_0 : (Cond.code yX7_save cX7_save 2 none) ∈ wsL_law := mr_9 _ (List.mem_of_getElem? (i := 0) rfl)
theorem u_9_1 : (Cond.fieldLink RX7 37 "CanyonBallModel" "savedMany" "I") ∈ wsL_law := mr_9 _ (List.mem_of_getElem? (i := 1) rfl)
theorem u_9_2 : (Cond.methodLink RX7 95 yX7_doesCall) ∈ wsL_law := mr_9 _ (List.mem_of_getElem? (i := 2) rfl)
theorem u_9_3 : (Cond.instanceMethod yX7_doesCall) ∈ wsL_law := mr_9 _ (List.mem_of_getElem? (i := 3) rfl)
theorem u_9_4 : (Cond.selects RX7 yX7_doesCall yX7_doesCall) ∈ wsL_law := mr_9 _ (List.mem_of_getElem? (i := 4) rfl)
theorem u_9_5 : (Cond.code yX7_doesCall cX7_doesCall 5 (some .int)) ∈ wsL_law := mr_9 _ (List.mem_of_getElem? (i := 5) rfl)
theorem u_9_6 : (Cond.methodLink RX7 60 yX7_underWay) ∈ wsL_law := mr_9 _ (List.mem_of_getElem? (i := 6) rfl)
theorem u_9_7 : (Cond.instanceMethod yX7_underWay) ∈ wsL_law := mr_9 _ (List.mem_of_getElem? (i := 7) rfl)
theorem u_9_8 : (Cond.selects RX7 yX7_underWay yX7_underWay) ∈ wsL_law := mr_9 _ (List.mem_of_getElem? (i := 8) rfl)
theorem u_9_9 : (Cond.code yX7_underWay cX7_underWay 4 (some .int)) ∈ wsL_law := mr_9 _ (List.mem_of_getElem? (i := 9) rfl)
theorem u_9_10 : (Cond.methodLink RX7 54 yX7_ofEcho) ∈ wsL_law := mr_9 _ (List.mem_of_getElem? (i := 10) rfl)
theorem u_9_11 : (Cond.instanceMethod yX7_ofEcho) ∈ wsL_law := mr_9 _ (List.mem_of_getElem? (i := 11) rfl)
theorem u_9_12 : (Cond.selects RX7 yX7_ofEcho yX7_ofEcho) ∈ wsL_law := mr_9 _ (List.mem_of_getElem? (i := 12) rfl)
theorem u_9_13 : (Cond.code yX7_ofEcho cX7_ofEcho 3 (some .int)) ∈ wsL_law := mr_9 _ (List.mem_of_getElem? (i := 13) rfl)
theorem u_9_14 : (Cond.methodLink RX7 63 yX7_addEcho) ∈ wsL_law := mr_9 _ (List.mem_of_getElem? (i := 14) rfl)
theorem u_9_15 : (Cond.instanceMethod yX7_addEcho) ∈ wsL_law := mr_9 _ (List.mem_of_getElem? (i := 15) rfl)
theorem u_9_16 : (Cond.selects RX7 yX7_addEcho yX7_addEcho) ∈ wsL_law := mr_9 _ (List.mem_of_getElem? (i := 16) rfl)
theorem u_9_17 : (Cond.code yX7_addEcho cX7_addEcho 6 none) ∈ wsL_law := mr_9 _ (List.mem_of_getElem? (i := 17) rfl)
theorem u_9_18 : (Cond.methodLink RX7 33 yX7_ofPlayer) ∈ wsL_law := mr_9 _ (List.mem_of_getElem? (i := 18) rfl)
theorem u_9_19 : (Cond.instanceMethod yX7_ofPlayer) ∈ wsL_law := mr_9 _ (List.mem_of_getElem? (i := 19) rfl)
theorem u_9_20 : (Cond.selects RX7 yX7_ofPlayer yX7_ofPlayer) ∈ wsL_law := mr_9 _ (List.mem_of_getElem? (i := 20) rfl)
theorem u_9_21 : (Cond.code yX7_ofPlayer cX7_ofPlayer 3 (some .int)) ∈ wsL_law := mr_9 _ (List.mem_of_getElem? (i := 21) rfl)
theorem u_9_22 : (Cond.methodLink RX7 57 yX7_delay) ∈ wsL_law := mr_9 _ (List.mem_of_getElem? (i := 22) rfl)
theorem u_9_23 : (Cond.instanceMethod yX7_delay) ∈ wsL_law := mr_9 _ (List.mem_of_getElem? (i := 23) rfl)
theorem u_10_0 : (Cond.selects RX7 yX7_delay yX7_delay) ∈ wsL_law := mr_10 _ (List.mem_of_getElem? (i := 0) rfl)
theorem u_10_1 : (Cond.code yX7_delay cX7_delay 5 (some .int)) ∈ wsL_law := mr_10 _ (List.mem_of_getElem? (i := 1) rfl)
theorem u_10_2 : (Cond.methodLink RL 83 yX7_thrown) ∈ wsL_law := mr_10 _ (List.mem_of_getElem? (i := 2) rfl)
theorem u_10_3 : (Cond.instanceMethod yX7_thrown) ∈ wsL_law := mr_10 _ (List.mem_of_getElem? (i := 3) rfl)
theorem u_10_4 : (Cond.selects RX7 yX7_thrown yX7_thrown) ∈ wsL_law := mr_10 _ (List.mem_of_getElem? (i := 4) rfl)
theorem u_10_5 : (Cond.code yX7_thrown cX7_thrown 1 (some .int)) ∈ wsL_law := mr_10 _ (List.mem_of_getElem? (i := 5) rfl)
theorem u_10_6 : (Cond.methodLink RL 86 yL_walk) ∈ wsL_law := mr_10 _ (List.mem_of_getElem? (i := 6) rfl)
theorem u_10_7 : (Cond.static yL_walk) ∈ wsL_law := mr_10 _ (List.mem_of_getElem? (i := 7) rfl)
theorem u_10_8 : (Cond.codeWith yL_walk cL_walk 5 (some .int) [(0, 10, 13, 13), (0, 10, 17, 15)]) ∈ wsL_law := mr_10 _ (List.mem_of_getElem? (i := 8) rfl)
theorem u_10_9 : (Cond.methodLink RL 17 yX6_walk) ∈ wsL_law := mr_10 _ (List.mem_of_getElem? (i := 9) rfl)
theorem u_10_10 : (Cond.instanceMethod yX6_walk) ∈ wsL_law := mr_10 _ (List.mem_of_getElem? (i := 10) rfl)
theorem u_10_11 : (Cond.selects RX6 yX6_walk yX6_walk) ∈ wsL_law := mr_10 _ (List.mem_of_getElem? (i := 11) rfl)
theorem u_10_12 : (Cond.code yX6_walk cX6_walk 3 (some .int)) ∈ wsL_law := mr_10 _ (List.mem_of_getElem? (i := 12) rfl)
theorem u_10_13 : (Cond.methodLink RX6 61 yX1_movePlayer) ∈ wsL_law := mr_10 _ (List.mem_of_getElem? (i := 13) rfl)
theorem u_10_14 : (Cond.instanceMethod yX1_movePlayer) ∈ wsL_law := mr_10 _ (List.mem_of_getElem? (i := 14) rfl)
theorem u_10_15 : (Cond.selects RX1 yX1_movePlayer yX1_movePlayer) ∈ wsL_law := mr_10 _ (List.mem_of_getElem? (i := 15) rfl)
theorem u_10_16 : (Cond.code yX1_movePlayer cX1_movePlayer 4 (some .int)) ∈ wsL_law := mr_10 _ (List.mem_of_getElem? (i := 16) rfl)
theorem u_10_17 : (Cond.methodLink RL 88 yX7_walk) ∈ wsL_law := mr_10 _ (List.mem_of_getElem? (i := 17) rfl)
theorem u_10_18 : (Cond.instanceMethod yX7_walk) ∈ wsL_law := mr_10 _ (List.mem_of_getElem? (i := 18) rfl)
theorem u_10_19 : (Cond.selects RX7 yX7_walk yX7_walk) ∈ wsL_law := mr_10 _ (List.mem_of_getElem? (i := 19) rfl)
theorem u_10_20 : (Cond.code yX7_walk cX7_walk 3 (some .int)) ∈ wsL_law := mr_10 _ (List.mem_of_getElem? (i := 20) rfl)
theorem u_10_21 : (Cond.methodLink RX7 98 yX7_doesWalk) ∈ wsL_law := mr_10 _ (List.mem_of_getElem? (i := 21) rfl)
theorem u_10_22 : (Cond.instanceMethod yX7_doesWalk) ∈ wsL_law := mr_10 _ (List.mem_of_getElem? (i := 22) rfl)
theorem u_10_23 : (Cond.selects RX7 yX7_doesWalk yX7_doesWalk) ∈ wsL_law := mr_10 _ (List.mem_of_getElem? (i := 23) rfl)
theorem u_11_0 : (Cond.code yX7_doesWalk cX7_doesWalk 4 (some .int)) ∈ wsL_law := mr_11 _ (List.mem_of_getElem? (i := 0) rfl)
theorem u_11_1 : (Cond.methodLink RL 89 yL_throwBall) ∈ wsL_law := mr_11 _ (List.mem_of_getElem? (i := 1) rfl)
theorem u_11_2 : (Cond.static yL_throwBall) ∈ wsL_law := mr_11 _ (List.mem_of_getElem? (i := 2) rfl)
theorem u_11_3 : (Cond.codeWith yL_throwBall cL_throwBall 6 (some .int) [(0, 12, 15, 15)]) ∈ wsL_law := mr_11 _ (List.mem_of_getElem? (i := 3) rfl)
theorem u_11_4 : (Cond.methodLink RL 20 yX6_throwBall) ∈ wsL_law := mr_11 _ (List.mem_of_getElem? (i := 4) rfl)
theorem u_11_5 : (Cond.instanceMethod yX6_throwBall) ∈ wsL_law := mr_11 _ (List.mem_of_getElem? (i := 5) rfl)
theorem u_11_6 : (Cond.selects RX6 yX6_throwBall yX6_throwBall) ∈ wsL_law := mr_11 _ (List.mem_of_getElem? (i := 6) rfl)
theorem u_11_7 : (Cond.code yX6_throwBall cX6_throwBall 5 (some .int)) ∈ wsL_law := mr_11 _ (List.mem_of_getElem? (i := 7) rfl)
theorem u_11_8 : (Cond.fieldLink RX6 68 "CanyonBall$Canyon" "ball" "LCanyonBall$Ball;") ∈ wsL_law := mr_11 _ (List.mem_of_getElem? (i := 8) rfl)
theorem u_11_9 : (Cond.fieldLink RX6 71 "CanyonBall$Ball" "place" "I") ∈ wsL_law := mr_11 _ (List.mem_of_getElem? (i := 9) rfl)
theorem u_11_10 : (Cond.fieldLink RX6 75 "CanyonBall$Ball" "speed" "I") ∈ wsL_law := mr_11 _ (List.mem_of_getElem? (i := 10) rfl)
theorem u_11_11 : (Cond.fieldLink RX6 78 "CanyonBall$Ball" "isRight" "Z") ∈ wsL_law := mr_11 _ (List.mem_of_getElem? (i := 11) rfl)
theorem u_11_12 : (Cond.methodLink RX6 64 yX1_lastPlace) ∈ wsL_law := mr_11 _ (List.mem_of_getElem? (i := 12) rfl)
theorem u_11_13 : (Cond.methodLink RL 92 yX7_throwBall) ∈ wsL_law := mr_11 _ (List.mem_of_getElem? (i := 13) rfl)
theorem u_11_14 : (Cond.instanceMethod yX7_throwBall) ∈ wsL_law := mr_11 _ (List.mem_of_getElem? (i := 14) rfl)
theorem u_11_15 : (Cond.selects RX7 yX7_throwBall yX7_throwBall) ∈ wsL_law := mr_11 _ (List.mem_of_getElem? (i := 15) rfl)
theorem u_11_16 : (Cond.code yX7_throwBall cX7_throwBall 5 (some .int)) ∈ wsL_law := mr_11 _ (List.mem_of_getElem? (i := 16) rfl)
theorem u_11_17 : (Cond.methodLink RL 93 yL_set) ∈ wsL_law := mr_11 _ (List.mem_of_getElem? (i := 17) rfl)
theorem u_11_18 : (Cond.static yL_set) ∈ wsL_law := mr_11 _ (List.mem_of_getElem? (i := 18) rfl)
theorem u_11_19 : (Cond.codeWith yL_set cL_set 5 (some .int) [(0, 10, 13, 13), (0, 10, 17, 15), (0, 10, 21, 27)]) ∈ wsL_law := mr_11 _ (List.mem_of_getElem? (i := 19) rfl)
theorem u_11_20 : (Cond.classLink RL 27 "java/lang/IllegalStateException") ∈ wsL_law := mr_11 _ (List.mem_of_getElem? (i := 20) rfl)
theorem u_11_21 : (Cond.methodLink RL 24 yX6_set) ∈ wsL_law := mr_11 _ (List.mem_of_getElem? (i := 21) rfl)
theorem u_11_22 : (Cond.instanceMethod yX6_set) ∈ wsL_law := mr_11 _ (List.mem_of_getElem? (i := 22) rfl)
theorem u_11_23 : (Cond.selects RX6 yX6_set yX6_set) ∈ wsL_law := mr_11 _ (List.mem_of_getElem? (i := 23) rfl)
theorem u_12_0 : (Cond.code yX6_set cX6_set 4 (some .int)) ∈ wsL_law := mr_12 _ (List.mem_of_getElem? (i := 0) rfl)
theorem u_12_1 : (Cond.classLink RX6 95 "java/lang/IllegalStateException") ∈ wsL_law := mr_12 _ (List.mem_of_getElem? (i := 1) rfl)
theorem u_12_2 : (Cond.initialized "java/lang/IllegalStateException") ∈ wsL_law := mr_12 _ (List.mem_of_getElem? (i := 2) rfl)
theorem u_12_3 : (Cond.fieldLink RX6 85 "CanyonBall" "LEAST_VALUES" "[I") ∈ wsL_law := mr_12 _ (List.mem_of_getElem? (i := 3) rfl)
theorem u_12_4 : (Cond.fieldLink RX6 89 "CanyonBall" "MOST_VALUES" "[I") ∈ wsL_law := mr_12 _ (List.mem_of_getElem? (i := 4) rfl)
theorem u_12_5 : (Cond.fieldLink RX6 102 "CanyonBall$Canyon" "settings" "[I") ∈ wsL_law := mr_12 _ (List.mem_of_getElem? (i := 5) rfl)
theorem u_12_6 : (Cond.methodLink RX6 82 yX6_checkSetting) ∈ wsL_law := mr_12 _ (List.mem_of_getElem? (i := 6) rfl)
theorem u_12_7 : (Cond.static yX6_checkSetting) ∈ wsL_law := mr_12 _ (List.mem_of_getElem? (i := 7) rfl)
theorem u_12_8 : (Cond.code yX6_checkSetting cX6_checkSetting 1 none) ∈ wsL_law := mr_12 _ (List.mem_of_getElem? (i := 8) rfl)
theorem u_12_9 : (Cond.methodLink RX6 92 yX1_furthestPlace) ∈ wsL_law := mr_12 _ (List.mem_of_getElem? (i := 9) rfl)
theorem u_12_10 : (Cond.instanceMethod yX1_furthestPlace) ∈ wsL_law := mr_12 _ (List.mem_of_getElem? (i := 10) rfl)
theorem u_12_11 : (Cond.selects RX1 yX1_furthestPlace yX1_furthestPlace) ∈ wsL_law := mr_12 _ (List.mem_of_getElem? (i := 11) rfl)
theorem u_12_12 : (Cond.code yX1_furthestPlace cX1_furthestPlace 3 (some .int)) ∈ wsL_law := mr_12 _ (List.mem_of_getElem? (i := 12) rfl)
theorem u_12_13 : (Cond.fieldLink RX1 61 "CanyonBall$Ball" "place" "I") ∈ wsL_law := mr_12 _ (List.mem_of_getElem? (i := 13) rfl)
theorem u_12_14 : (Cond.methodLink RL 95 yX7_set) ∈ wsL_law := mr_12 _ (List.mem_of_getElem? (i := 14) rfl)
theorem u_12_15 : (Cond.instanceMethod yX7_set) ∈ wsL_law := mr_12 _ (List.mem_of_getElem? (i := 15) rfl)
theorem u_12_16 : (Cond.selects RX7 yX7_set yX7_set) ∈ wsL_law := mr_12 _ (List.mem_of_getElem? (i := 16) rfl)
theorem u_12_17 : (Cond.code yX7_set cX7_set 6 (some .int)) ∈ wsL_law := mr_12 _ (List.mem_of_getElem? (i := 17) rfl)
theorem u_12_18 : (Cond.methodLink RX7 101 yX7_hasRoom) ∈ wsL_law := mr_12 _ (List.mem_of_getElem? (i := 18) rfl)
theorem u_12_19 : (Cond.instanceMethod yX7_hasRoom) ∈ wsL_law := mr_12 _ (List.mem_of_getElem? (i := 19) rfl)
theorem u_12_20 : (Cond.selects RX7 yX7_hasRoom yX7_hasRoom) ∈ wsL_law := mr_12 _ (List.mem_of_getElem? (i := 20) rfl)
theorem u_12_21 : (Cond.code yX7_hasRoom cX7_hasRoom 4 (some .boolean)) ∈ wsL_law := mr_12 _ (List.mem_of_getElem? (i := 21) rfl)
theorem u_12_22 : (Cond.methodLink RL 96 yL_pass) ∈ wsL_law := mr_12 _ (List.mem_of_getElem? (i := 22) rfl)
theorem u_12_23 : (Cond.static yL_pass) ∈ wsL_law := mr_12 _ (List.mem_of_getElem? (i := 23) rfl)
theorem u_13_0 : (Cond.codeWith yL_pass cL_pass 4 (some .int) [(0, 9, 12, 15), (0, 9, 15, 27)]) ∈ wsL_law := mr_13 _ (List.mem_of_getElem? (i := 0) rfl)
theorem u_13_1 : (Cond.methodLink RL 29 yX6_pass) ∈ wsL_law := mr_13 _ (List.mem_of_getElem? (i := 1) rfl)
theorem u_13_2 : (Cond.instanceMethod yX6_pass) ∈ wsL_law := mr_13 _ (List.mem_of_getElem? (i := 2) rfl)
theorem u_13_3 : (Cond.selects RX6 yX6_pass yX6_pass) ∈ wsL_law := mr_13 _ (List.mem_of_getElem? (i := 3) rfl)
theorem u_13_4 : (Cond.code yX6_pass cX6_pass 2 (some .int)) ∈ wsL_law := mr_13 _ (List.mem_of_getElem? (i := 4) rfl)
theorem u_13_5 : (Cond.methodLink RX6 105 yX1_hasTimeFor) ∈ wsL_law := mr_13 _ (List.mem_of_getElem? (i := 5) rfl)
theorem u_13_6 : (Cond.instanceMethod yX1_hasTimeFor) ∈ wsL_law := mr_13 _ (List.mem_of_getElem? (i := 6) rfl)
theorem u_13_7 : (Cond.selects RX1 yX1_hasTimeFor yX1_hasTimeFor) ∈ wsL_law := mr_13 _ (List.mem_of_getElem? (i := 7) rfl)
theorem u_13_8 : (Cond.code yX1_hasTimeFor cX1_hasTimeFor 2 (some .boolean)) ∈ wsL_law := mr_13 _ (List.mem_of_getElem? (i := 8) rfl)
theorem u_13_9 : (Cond.constant RX1 72 (99999)) ∈ wsL_law := mr_13 _ (List.mem_of_getElem? (i := 9) rfl)
theorem u_13_10 : (Cond.methodLink RX6 111 yX1_goTurns) ∈ wsL_law := mr_13 _ (List.mem_of_getElem? (i := 10) rfl)
theorem u_13_11 : (Cond.instanceMethod yX1_goTurns) ∈ wsL_law := mr_13 _ (List.mem_of_getElem? (i := 11) rfl)
theorem u_13_12 : (Cond.selects RX1 yX1_goTurns yX1_goTurns) ∈ wsL_law := mr_13 _ (List.mem_of_getElem? (i := 12) rfl)
theorem u_13_13 : (Cond.code yX1_goTurns cX1_goTurns 4 (some .int)) ∈ wsL_law := mr_13 _ (List.mem_of_getElem? (i := 13) rfl)
theorem u_13_14 : (Cond.methodLink RX1 106 yX1_goTurn) ∈ wsL_law := mr_13 _ (List.mem_of_getElem? (i := 14) rfl)
theorem u_13_15 : (Cond.instanceMethod yX1_goTurn) ∈ wsL_law := mr_13 _ (List.mem_of_getElem? (i := 15) rfl)
theorem u_13_16 : (Cond.selects RX1 yX1_goTurn yX1_goTurn) ∈ wsL_law := mr_13 _ (List.mem_of_getElem? (i := 16) rfl)
theorem u_13_17 : (Cond.code yX1_goTurn cX1_goTurn 3 (some .int)) ∈ wsL_law := mr_13 _ (List.mem_of_getElem? (i := 17) rfl)
theorem u_13_18 : (Cond.methodLink RX1 109 yX0_goTurn) ∈ wsL_law := mr_13 _ (List.mem_of_getElem? (i := 18) rfl)
theorem u_13_19 : (Cond.instanceMethod yX0_goTurn) ∈ wsL_law := mr_13 _ (List.mem_of_getElem? (i := 19) rfl)
theorem u_13_20 : (Cond.selects RX0 yX0_goTurn yX0_goTurn) ∈ wsL_law := mr_13 _ (List.mem_of_getElem? (i := 20) rfl)
theorem u_13_21 : (Cond.code yX0_goTurn cX0_goTurn 3 none) ∈ wsL_law := mr_13 _ (List.mem_of_getElem? (i := 21) rfl)
theorem u_13_22 : (Cond.methodLink RX0 22 yX0_goStep) ∈ wsL_law := mr_13 _ (List.mem_of_getElem? (i := 22) rfl)
theorem u_13_23 : (Cond.instanceMethod yX0_goStep) ∈ wsL_law := mr_13 _ (List.mem_of_getElem? (i := 23) rfl)
theorem u_14_0 : (Cond.selects RX0 yX0_goStep yX0_goStep) ∈ wsL_law := mr_14 _ (List.mem_of_getElem? (i := 0) rfl)
theorem u_14_1 : (Cond.code yX0_goStep cX0_goStep 2 none) ∈ wsL_law := mr_14 _ (List.mem_of_getElem? (i := 1) rfl)
theorem u_14_2 : (Cond.methodLink RX1 111 yX1_isCatch) ∈ wsL_law := mr_14 _ (List.mem_of_getElem? (i := 2) rfl)
theorem u_14_3 : (Cond.instanceMethod yX1_isCatch) ∈ wsL_law := mr_14 _ (List.mem_of_getElem? (i := 3) rfl)
theorem u_14_4 : (Cond.selects RX1 yX1_isCatch yX1_isCatch) ∈ wsL_law := mr_14 _ (List.mem_of_getElem? (i := 4) rfl)
theorem u_14_5 : (Cond.code yX1_isCatch cX1_isCatch 4 (some .boolean)) ∈ wsL_law := mr_14 _ (List.mem_of_getElem? (i := 5) rfl)
theorem u_14_6 : (Cond.fieldLink RX1 121 "CanyonBall$Player" "clashed" "I") ∈ wsL_law := mr_14 _ (List.mem_of_getElem? (i := 6) rfl)
theorem u_14_7 : (Cond.fieldLink RX1 124 "CanyonBall$Player" "lost" "I") ∈ wsL_law := mr_14 _ (List.mem_of_getElem? (i := 7) rfl)
theorem u_14_8 : (Cond.fieldLink RX1 127 "CanyonBall$Player" "answered" "I") ∈ wsL_law := mr_14 _ (List.mem_of_getElem? (i := 8) rfl)
theorem u_14_9 : (Cond.fieldLink RX1 130 "CanyonBall$Player" "caught" "I") ∈ wsL_law := mr_14 _ (List.mem_of_getElem? (i := 9) rfl)
theorem u_14_10 : (Cond.methodLink RX1 118 yX1_echoClashes) ∈ wsL_law := mr_14 _ (List.mem_of_getElem? (i := 10) rfl)
theorem u_14_11 : (Cond.instanceMethod yX1_echoClashes) ∈ wsL_law := mr_14 _ (List.mem_of_getElem? (i := 11) rfl)
theorem u_14_12 : (Cond.selects RX1 yX1_echoClashes yX1_echoClashes) ∈ wsL_law := mr_14 _ (List.mem_of_getElem? (i := 12) rfl)
theorem u_14_13 : (Cond.code yX1_echoClashes cX1_echoClashes 4 (some .boolean)) ∈ wsL_law := mr_14 _ (List.mem_of_getElem? (i := 13) rfl)
theorem u_14_14 : (Cond.methodLink RX1 136 yX2_comesTo) ∈ wsL_law := mr_14 _ (List.mem_of_getElem? (i := 14) rfl)
theorem u_14_15 : (Cond.instanceMethod yX2_comesTo) ∈ wsL_law := mr_14 _ (List.mem_of_getElem? (i := 15) rfl)
theorem u_14_16 : (Cond.selects RX2 yX2_comesTo yX2_comesTo) ∈ wsL_law := mr_14 _ (List.mem_of_getElem? (i := 16) rfl)
theorem u_14_17 : (Cond.code yX2_comesTo cX2_comesTo 3 (some .boolean)) ∈ wsL_law := mr_14 _ (List.mem_of_getElem? (i := 17) rfl)
theorem u_14_18 : (Cond.methodLink RX1 133 yX0_followWord) ∈ wsL_law := mr_14 _ (List.mem_of_getElem? (i := 18) rfl)
theorem u_14_19 : (Cond.instanceMethod yX0_followWord) ∈ wsL_law := mr_14 _ (List.mem_of_getElem? (i := 19) rfl)
theorem u_14_20 : (Cond.selects RX0 yX0_followWord yX0_followWord) ∈ wsL_law := mr_14 _ (List.mem_of_getElem? (i := 20) rfl)
theorem u_14_21 : (Cond.code yX0_followWord cX0_followWord 2 none) ∈ wsL_law := mr_14 _ (List.mem_of_getElem? (i := 21) rfl)
theorem u_14_22 : (Cond.methodLink RX0 32 Lib.Math.min.name) ∈ wsL_law := mr_14 _ (List.mem_of_getElem? (i := 22) rfl)
theorem u_14_23 : (Cond.methodLink RX0 26 Lib.Math.max.name) ∈ wsL_law := mr_14 _ (List.mem_of_getElem? (i := 23) rfl)
theorem u_15_0 : (Cond.methodLink RX1 115 yX1_dropFirstEchoes) ∈ wsL_law := mr_15 _ (List.mem_of_getElem? (i := 0) rfl)
theorem u_15_1 : (Cond.instanceMethod yX1_dropFirstEchoes) ∈ wsL_law := mr_15 _ (List.mem_of_getElem? (i := 1) rfl)
theorem u_15_2 : (Cond.selects RX1 yX1_dropFirstEchoes yX1_dropFirstEchoes) ∈ wsL_law := mr_15 _ (List.mem_of_getElem? (i := 2) rfl)
theorem u_15_3 : (Cond.code yX1_dropFirstEchoes cX1_dropFirstEchoes 4 none) ∈ wsL_law := mr_15 _ (List.mem_of_getElem? (i := 3) rfl)
theorem u_15_4 : (Cond.methodLink RL 99 yX7_pass) ∈ wsL_law := mr_15 _ (List.mem_of_getElem? (i := 4) rfl)
theorem u_15_5 : (Cond.instanceMethod yX7_pass) ∈ wsL_law := mr_15 _ (List.mem_of_getElem? (i := 5) rfl)
theorem u_15_6 : (Cond.selects RX7 yX7_pass yX7_pass) ∈ wsL_law := mr_15 _ (List.mem_of_getElem? (i := 6) rfl)
theorem u_15_7 : (Cond.code yX7_pass cX7_pass 2 (some .int)) ∈ wsL_law := mr_15 _ (List.mem_of_getElem? (i := 7) rfl)
theorem u_15_8 : (Cond.constant RX7 104 (99999)) ∈ wsL_law := mr_15 _ (List.mem_of_getElem? (i := 8) rfl)
theorem u_15_9 : (Cond.methodLink RX7 105 yX7_doesPass) ∈ wsL_law := mr_15 _ (List.mem_of_getElem? (i := 9) rfl)
theorem u_15_10 : (Cond.instanceMethod yX7_doesPass) ∈ wsL_law := mr_15 _ (List.mem_of_getElem? (i := 10) rfl)
theorem u_15_11 : (Cond.selects RX7 yX7_doesPass yX7_doesPass) ∈ wsL_law := mr_15 _ (List.mem_of_getElem? (i := 11) rfl)
theorem u_15_12 : (Cond.code yX7_doesPass cX7_doesPass 4 (some .int)) ∈ wsL_law := mr_15 _ (List.mem_of_getElem? (i := 12) rfl)
theorem u_15_13 : (Cond.methodLink RX7 87 yX7_turn) ∈ wsL_law := mr_15 _ (List.mem_of_getElem? (i := 13) rfl)
theorem u_15_14 : (Cond.instanceMethod yX7_turn) ∈ wsL_law := mr_15 _ (List.mem_of_getElem? (i := 14) rfl)
theorem u_15_15 : (Cond.selects RX7 yX7_turn yX7_turn) ∈ wsL_law := mr_15 _ (List.mem_of_getElem? (i := 15) rfl)
theorem u_15_16 : (Cond.code yX7_turn cX7_turn 6 (some .int)) ∈ wsL_law := mr_15 _ (List.mem_of_getElem? (i := 16) rfl)
theorem u_15_17 : (Cond.fieldLink RX7 47 "CanyonBallModel" "ball" "I") ∈ wsL_law := mr_15 _ (List.mem_of_getElem? (i := 17) rfl)
theorem u_15_18 : (Cond.fieldLink RX7 50 "CanyonBallModel" "goesRight" "Z") ∈ wsL_law := mr_15 _ (List.mem_of_getElem? (i := 18) rfl)
theorem u_15_19 : (Cond.methodLink RX7 71 yX7_takeBall) ∈ wsL_law := mr_15 _ (List.mem_of_getElem? (i := 19) rfl)
theorem u_15_20 : (Cond.instanceMethod yX7_takeBall) ∈ wsL_law := mr_15 _ (List.mem_of_getElem? (i := 20) rfl)
theorem u_15_21 : (Cond.selects RX7 yX7_takeBall yX7_takeBall) ∈ wsL_law := mr_15 _ (List.mem_of_getElem? (i := 21) rfl)
theorem u_15_22 : (Cond.code yX7_takeBall cX7_takeBall 1 none) ∈ wsL_law := mr_15 _ (List.mem_of_getElem? (i := 22) rfl)
theorem u_15_23 : (Cond.methodLink RX7 74 yX7_moveBall) ∈ wsL_law := mr_15 _ (List.mem_of_getElem? (i := 23) rfl)
theorem u_16_0 : (Cond.instanceMethod yX7_moveBall) ∈ wsL_law := mr_16 _ (List.mem_of_getElem? (i := 0) rfl)
theorem u_16_1 : (Cond.selects RX7 yX7_moveBall yX7_moveBall) ∈ wsL_law := mr_16 _ (List.mem_of_getElem? (i := 1) rfl)
theorem u_16_2 : (Cond.code yX7_moveBall cX7_moveBall 3 none) ∈ wsL_law := mr_16 _ (List.mem_of_getElem? (i := 2) rfl)
theorem u_16_3 : (Cond.methodLink RX7 77 yX7_comingTo) ∈ wsL_law := mr_16 _ (List.mem_of_getElem? (i := 3) rfl)
theorem u_16_4 : (Cond.instanceMethod yX7_comingTo) ∈ wsL_law := mr_16 _ (List.mem_of_getElem? (i := 4) rfl)
theorem u_16_5 : (Cond.selects RX7 yX7_comingTo yX7_comingTo) ∈ wsL_law := mr_16 _ (List.mem_of_getElem? (i := 5) rfl)
theorem u_16_6 : (Cond.code yX7_comingTo cX7_comingTo 5 (some .int)) ∈ wsL_law := mr_16 _ (List.mem_of_getElem? (i := 6) rfl)
theorem u_16_7 : (Cond.methodLink RX7 80 yX7_comesBack) ∈ wsL_law := mr_16 _ (List.mem_of_getElem? (i := 7) rfl)
theorem u_16_8 : (Cond.instanceMethod yX7_comesBack) ∈ wsL_law := mr_16 _ (List.mem_of_getElem? (i := 8) rfl)
theorem u_16_9 : (Cond.selects RX7 yX7_comesBack yX7_comesBack) ∈ wsL_law := mr_16 _ (List.mem_of_getElem? (i := 9) rfl)
theorem u_16_10 : (Cond.code yX7_comesBack cX7_comesBack 6 (some .boolean)) ∈ wsL_law := mr_16 _ (List.mem_of_getElem? (i := 10) rfl)
theorem u_16_11 : (Cond.methodLink RX7 67 yX7_sendOn) ∈ wsL_law := mr_16 _ (List.mem_of_getElem? (i := 11) rfl)
theorem u_16_12 : (Cond.instanceMethod yX7_sendOn) ∈ wsL_law := mr_16 _ (List.mem_of_getElem? (i := 12) rfl)
theorem u_16_13 : (Cond.selects RX7 yX7_sendOn yX7_sendOn) ∈ wsL_law := mr_16 _ (List.mem_of_getElem? (i := 13) rfl)
theorem u_16_14 : (Cond.code yX7_sendOn cX7_sendOn 3 none) ∈ wsL_law := mr_16 _ (List.mem_of_getElem? (i := 14) rfl)
theorem u_16_15 : (Cond.methodLink RX7 84 yX7_dropDue) ∈ wsL_law := mr_16 _ (List.mem_of_getElem? (i := 15) rfl)
theorem u_16_16 : (Cond.instanceMethod yX7_dropDue) ∈ wsL_law := mr_16 _ (List.mem_of_getElem? (i := 16) rfl)
theorem u_16_17 : (Cond.selects RX7 yX7_dropDue yX7_dropDue) ∈ wsL_law := mr_16 _ (List.mem_of_getElem? (i := 17) rfl)
theorem u_16_18 : (Cond.code yX7_dropDue cX7_dropDue 4 none) ∈ wsL_law := mr_16 _ (List.mem_of_getElem? (i := 18) rfl)
theorem u_16_19 : (Cond.methodLink RL 100 yL_append) ∈ wsL_law := mr_16 _ (List.mem_of_getElem? (i := 19) rfl)
theorem u_16_20 : (Cond.static yL_append) ∈ wsL_law := mr_16 _ (List.mem_of_getElem? (i := 20) rfl)
theorem u_16_21 : (Cond.codeWith yL_append cL_append 4 (some .int) [(0, 9, 12, 15), (0, 9, 15, 27)]) ∈ wsL_law := mr_16 _ (List.mem_of_getElem? (i := 21) rfl)
theorem u_16_22 : (Cond.methodLink RL 33 yX6_append) ∈ wsL_law := mr_16 _ (List.mem_of_getElem? (i := 22) rfl)
theorem u_16_23 : (Cond.instanceMethod yX6_append) ∈ wsL_law := mr_16 _ (List.mem_of_getElem? (i := 23) rfl)
theorem u_17_0 : (Cond.selects RX6 yX6_append yX6_append) ∈ wsL_law := mr_17 _ (List.mem_of_getElem? (i := 0) rfl)
theorem u_17_1 : (Cond.code yX6_append cX6_append 2 (some .int)) ∈ wsL_law := mr_17 _ (List.mem_of_getElem? (i := 1) rfl)
theorem u_17_2 : (Cond.fieldLink RX6 124 "CanyonBall$TurnText" "length" "I") ∈ wsL_law := mr_17 _ (List.mem_of_getElem? (i := 2) rfl)
theorem u_17_3 : (Cond.methodLink RX6 115 yX5_isFull) ∈ wsL_law := mr_17 _ (List.mem_of_getElem? (i := 3) rfl)
theorem u_17_4 : (Cond.instanceMethod yX5_isFull) ∈ wsL_law := mr_17 _ (List.mem_of_getElem? (i := 4) rfl)
theorem u_17_5 : (Cond.selects RX5 yX5_isFull yX5_isFull) ∈ wsL_law := mr_17 _ (List.mem_of_getElem? (i := 5) rfl)
theorem u_17_6 : (Cond.code yX5_isFull cX5_isFull 1 (some .boolean)) ∈ wsL_law := mr_17 _ (List.mem_of_getElem? (i := 6) rfl)
theorem u_17_7 : (Cond.fieldLink RX5 15 "CanyonBall$TurnText" "length" "I") ∈ wsL_law := mr_17 _ (List.mem_of_getElem? (i := 7) rfl)
theorem u_17_8 : (Cond.methodLink RX6 121 yX5_add) ∈ wsL_law := mr_17 _ (List.mem_of_getElem? (i := 8) rfl)
theorem u_17_9 : (Cond.instanceMethod yX5_add) ∈ wsL_law := mr_17 _ (List.mem_of_getElem? (i := 9) rfl)
theorem u_17_10 : (Cond.selects RX5 yX5_add yX5_add) ∈ wsL_law := mr_17 _ (List.mem_of_getElem? (i := 10) rfl)
theorem u_17_11 : (Cond.code yX5_add cX5_add 2 none) ∈ wsL_law := mr_17 _ (List.mem_of_getElem? (i := 11) rfl)
theorem u_17_12 : (Cond.methodLink RL 102 yX7_append) ∈ wsL_law := mr_17 _ (List.mem_of_getElem? (i := 12) rfl)
theorem u_17_13 : (Cond.instanceMethod yX7_append) ∈ wsL_law := mr_17 _ (List.mem_of_getElem? (i := 13) rfl)
theorem u_17_14 : (Cond.selects RX7 yX7_append yX7_append) ∈ wsL_law := mr_17 _ (List.mem_of_getElem? (i := 14) rfl)
theorem u_17_15 : (Cond.code yX7_append cX7_append 2 (some .int)) ∈ wsL_law := mr_17 _ (List.mem_of_getElem? (i := 15) rfl)
theorem u_17_16 : (Cond.fieldLink RX7 108 "CanyonBallModel" "length" "I") ∈ wsL_law := mr_17 _ (List.mem_of_getElem? (i := 16) rfl)
theorem u_17_17 : (Cond.methodLink RL 103 yX6_clearBuffer) ∈ wsL_law := mr_17 _ (List.mem_of_getElem? (i := 17) rfl)
theorem u_17_18 : (Cond.instanceMethod yX6_clearBuffer) ∈ wsL_law := mr_17 _ (List.mem_of_getElem? (i := 18) rfl)
theorem u_17_19 : (Cond.selects RX6 yX6_clearBuffer yX6_clearBuffer) ∈ wsL_law := mr_17 _ (List.mem_of_getElem? (i := 19) rfl)
theorem u_17_20 : (Cond.code yX6_clearBuffer cX6_clearBuffer 2 (some .int)) ∈ wsL_law := mr_17 _ (List.mem_of_getElem? (i := 20) rfl)
theorem u_17_21 : (Cond.methodLink RL 106 yX7_clearBuffer) ∈ wsL_law := mr_17 _ (List.mem_of_getElem? (i := 21) rfl)
theorem u_17_22 : (Cond.instanceMethod yX7_clearBuffer) ∈ wsL_law := mr_17 _ (List.mem_of_getElem? (i := 22) rfl)
theorem u_17_23 : (Cond.selects RX7 yX7_clearBuffer yX7_clearBuffer) ∈ wsL_law := mr_17 _ (List.mem_of_getElem? (i := 23) rfl)
theorem u_18_0 : (Cond.code yX7_clearBuffer cX7_clearBuffer 2 (some .int)) ∈ wsL_law := mr_18 _ (List.mem_of_getElem? (i := 0) rfl)
theorem u_18_1 : (Cond.methodLink RL 107 yX6_firstError) ∈ wsL_law := mr_18 _ (List.mem_of_getElem? (i := 1) rfl)
theorem u_18_2 : (Cond.instanceMethod yX6_firstError) ∈ wsL_law := mr_18 _ (List.mem_of_getElem? (i := 2) rfl)
theorem u_18_3 : (Cond.selects RX6 yX6_firstError yX6_firstError) ∈ wsL_law := mr_18 _ (List.mem_of_getElem? (i := 3) rfl)
theorem u_18_4 : (Cond.code yX6_firstError cX6_firstError 1 (some .int)) ∈ wsL_law := mr_18 _ (List.mem_of_getElem? (i := 4) rfl)
theorem u_18_5 : (Cond.methodLink RX6 127 yX5_errorIndex) ∈ wsL_law := mr_18 _ (List.mem_of_getElem? (i := 5) rfl)
theorem u_18_6 : (Cond.instanceMethod yX5_errorIndex) ∈ wsL_law := mr_18 _ (List.mem_of_getElem? (i := 6) rfl)
theorem u_18_7 : (Cond.selects RX5 yX5_errorIndex yX5_errorIndex) ∈ wsL_law := mr_18 _ (List.mem_of_getElem? (i := 7) rfl)
theorem u_18_8 : (Cond.code yX5_errorIndex cX5_errorIndex 3 (some .int)) ∈ wsL_law := mr_18 _ (List.mem_of_getElem? (i := 8) rfl)
theorem u_18_9 : (Cond.methodLink RX5 19 yX5_stateAfter) ∈ wsL_law := mr_18 _ (List.mem_of_getElem? (i := 9) rfl)
theorem u_18_10 : (Cond.static yX5_stateAfter) ∈ wsL_law := mr_18 _ (List.mem_of_getElem? (i := 10) rfl)
theorem u_18_11 : (Cond.code yX5_stateAfter cX5_stateAfter 2 (some .int)) ∈ wsL_law := mr_18 _ (List.mem_of_getElem? (i := 11) rfl)
theorem u_18_12 : (Cond.methodLink RX5 23 yX5_stateAfterStart) ∈ wsL_law := mr_18 _ (List.mem_of_getElem? (i := 12) rfl)
theorem u_18_13 : (Cond.static yX5_stateAfterStart) ∈ wsL_law := mr_18 _ (List.mem_of_getElem? (i := 13) rfl)
theorem u_18_14 : (Cond.code yX5_stateAfterStart cX5_stateAfterStart 1 (some .int)) ∈ wsL_law := mr_18 _ (List.mem_of_getElem? (i := 14) rfl)
theorem u_18_15 : (Cond.methodLink RX5 27 yX5_isPlayer) ∈ wsL_law := mr_18 _ (List.mem_of_getElem? (i := 15) rfl)
theorem u_18_16 : (Cond.static yX5_isPlayer) ∈ wsL_law := mr_18 _ (List.mem_of_getElem? (i := 16) rfl)
theorem u_18_17 : (Cond.code yX5_isPlayer cX5_isPlayer 1 (some .boolean)) ∈ wsL_law := mr_18 _ (List.mem_of_getElem? (i := 17) rfl)
theorem u_18_18 : (Cond.methodLink RX5 31 yX5_isDigit) ∈ wsL_law := mr_18 _ (List.mem_of_getElem? (i := 18) rfl)
theorem u_18_19 : (Cond.static yX5_isDigit) ∈ wsL_law := mr_18 _ (List.mem_of_getElem? (i := 19) rfl)
theorem u_18_20 : (Cond.code yX5_isDigit cX5_isDigit 1 (some .boolean)) ∈ wsL_law := mr_18 _ (List.mem_of_getElem? (i := 20) rfl)
theorem u_18_21 : (Cond.methodLink RX5 34 yX5_stateAfterOrder) ∈ wsL_law := mr_18 _ (List.mem_of_getElem? (i := 21) rfl)
theorem u_18_22 : (Cond.static yX5_stateAfterOrder) ∈ wsL_law := mr_18 _ (List.mem_of_getElem? (i := 22) rfl)
theorem u_18_23 : (Cond.code yX5_stateAfterOrder cX5_stateAfterOrder 1 (some .int)) ∈ wsL_law := mr_18 _ (List.mem_of_getElem? (i := 23) rfl)
theorem u_19_0 : (Cond.methodLink RL 110 yX7_firstError) ∈ wsL_law := mr_19 _ (List.mem_of_getElem? (i := 0) rfl)
theorem u_19_1 : (Cond.instanceMethod yX7_firstError) ∈ wsL_law := mr_19 _ (List.mem_of_getElem? (i := 1) rfl)
theorem u_19_2 : (Cond.selects RX7 yX7_firstError yX7_firstError) ∈ wsL_law := mr_19 _ (List.mem_of_getElem? (i := 2) rfl)
theorem u_19_3 : (Cond.code yX7_firstError cX7_firstError 2 (some .int)) ∈ wsL_law := mr_19 _ (List.mem_of_getElem? (i := 3) rfl)
theorem u_19_4 : (Cond.methodLink RX7 145 yX7_findError) ∈ wsL_law := mr_19 _ (List.mem_of_getElem? (i := 4) rfl)
theorem u_19_5 : (Cond.instanceMethod yX7_findError) ∈ wsL_law := mr_19 _ (List.mem_of_getElem? (i := 5) rfl)
theorem u_19_6 : (Cond.selects RX7 yX7_findError yX7_findError) ∈ wsL_law := mr_19 _ (List.mem_of_getElem? (i := 6) rfl)
theorem u_19_7 : (Cond.code yX7_findError cX7_findError 1 (some .int)) ∈ wsL_law := mr_19 _ (List.mem_of_getElem? (i := 7) rfl)
theorem u_19_8 : (Cond.fieldLink RX7 111 "CanyonBallModel" "at" "I") ∈ wsL_law := mr_19 _ (List.mem_of_getElem? (i := 8) rfl)
theorem u_19_9 : (Cond.methodLink RX7 142 yX7_readsOrder) ∈ wsL_law := mr_19 _ (List.mem_of_getElem? (i := 9) rfl)
theorem u_19_10 : (Cond.instanceMethod yX7_readsOrder) ∈ wsL_law := mr_19 _ (List.mem_of_getElem? (i := 10) rfl)
theorem u_19_11 : (Cond.selects RX7 yX7_readsOrder yX7_readsOrder) ∈ wsL_law := mr_19 _ (List.mem_of_getElem? (i := 11) rfl)
theorem u_19_12 : (Cond.code yX7_readsOrder cX7_readsOrder 1 (some .boolean)) ∈ wsL_law := mr_19 _ (List.mem_of_getElem? (i := 12) rfl)
theorem u_19_13 : (Cond.fieldLink RX7 129 "CanyonBallModel" "letter" "I") ∈ wsL_law := mr_19 _ (List.mem_of_getElem? (i := 13) rfl)
theorem u_19_14 : (Cond.methodLink RX7 114 yX7_next) ∈ wsL_law := mr_19 _ (List.mem_of_getElem? (i := 14) rfl)
theorem u_19_15 : (Cond.instanceMethod yX7_next) ∈ wsL_law := mr_19 _ (List.mem_of_getElem? (i := 15) rfl)
theorem u_19_16 : (Cond.selects RX7 yX7_next yX7_next) ∈ wsL_law := mr_19 _ (List.mem_of_getElem? (i := 16) rfl)
theorem u_19_17 : (Cond.code yX7_next cX7_next 1 (some .int)) ∈ wsL_law := mr_19 _ (List.mem_of_getElem? (i := 17) rfl)
theorem u_19_18 : (Cond.methodLink RX7 132 yX7_readsCall) ∈ wsL_law := mr_19 _ (List.mem_of_getElem? (i := 18) rfl)
theorem u_19_19 : (Cond.instanceMethod yX7_readsCall) ∈ wsL_law := mr_19 _ (List.mem_of_getElem? (i := 19) rfl)
theorem u_19_20 : (Cond.selects RX7 yX7_readsCall yX7_readsCall) ∈ wsL_law := mr_19 _ (List.mem_of_getElem? (i := 20) rfl)
theorem u_19_21 : (Cond.code yX7_readsCall cX7_readsCall 1 (some .boolean)) ∈ wsL_law := mr_19 _ (List.mem_of_getElem? (i := 21) rfl)
theorem u_19_22 : (Cond.fieldLink RX7 120 "CanyonBallModel" "first" "I") ∈ wsL_law := mr_19 _ (List.mem_of_getElem? (i := 22) rfl)
theorem u_19_23 : (Cond.fieldLink RX7 126 "CanyonBallModel" "second" "I") ∈ wsL_law := mr_19 _ (List.mem_of_getElem? (i := 23) rfl)
theorem u_20_0 : (Cond.methodLink RX7 117 yX7_digit) ∈ wsL_law := mr_20 _ (List.mem_of_getElem? (i := 0) rfl)
theorem u_20_1 : (Cond.instanceMethod yX7_digit) ∈ wsL_law := mr_20 _ (List.mem_of_getElem? (i := 1) rfl)
theorem u_20_2 : (Cond.selects RX7 yX7_digit yX7_digit) ∈ wsL_law := mr_20 _ (List.mem_of_getElem? (i := 2) rfl)
theorem u_20_3 : (Cond.code yX7_digit cX7_digit 4 (some .int)) ∈ wsL_law := mr_20 _ (List.mem_of_getElem? (i := 3) rfl)
theorem u_20_4 : (Cond.methodLink RX7 123 yX7_takes) ∈ wsL_law := mr_20 _ (List.mem_of_getElem? (i := 4) rfl)
theorem u_20_5 : (Cond.instanceMethod yX7_takes) ∈ wsL_law := mr_20 _ (List.mem_of_getElem? (i := 5) rfl)
theorem u_20_6 : (Cond.selects RX7 yX7_takes yX7_takes) ∈ wsL_law := mr_20 _ (List.mem_of_getElem? (i := 6) rfl)
theorem u_20_7 : (Cond.code yX7_takes cX7_takes 3 (some .boolean)) ∈ wsL_law := mr_20 _ (List.mem_of_getElem? (i := 7) rfl)
theorem u_20_8 : (Cond.methodLink RX7 136 yX7_readsWalk) ∈ wsL_law := mr_20 _ (List.mem_of_getElem? (i := 8) rfl)
theorem u_20_9 : (Cond.instanceMethod yX7_readsWalk) ∈ wsL_law := mr_20 _ (List.mem_of_getElem? (i := 9) rfl)
theorem u_20_10 : (Cond.selects RX7 yX7_readsWalk yX7_readsWalk) ∈ wsL_law := mr_20 _ (List.mem_of_getElem? (i := 10) rfl)
theorem u_20_11 : (Cond.code yX7_readsWalk cX7_readsWalk 3 (some .boolean)) ∈ wsL_law := mr_20 _ (List.mem_of_getElem? (i := 11) rfl)
theorem u_20_12 : (Cond.methodLink RX7 139 yX7_readsTurns) ∈ wsL_law := mr_20 _ (List.mem_of_getElem? (i := 12) rfl)
theorem u_20_13 : (Cond.instanceMethod yX7_readsTurns) ∈ wsL_law := mr_20 _ (List.mem_of_getElem? (i := 13) rfl)
theorem u_20_14 : (Cond.selects RX7 yX7_readsTurns yX7_readsTurns) ∈ wsL_law := mr_20 _ (List.mem_of_getElem? (i := 14) rfl)
theorem u_20_15 : (Cond.code yX7_readsTurns cX7_readsTurns 2 (some .boolean)) ∈ wsL_law := mr_20 _ (List.mem_of_getElem? (i := 15) rfl)
theorem u_20_16 : (Cond.methodLink RL 111 yL_run) ∈ wsL_law := mr_20 _ (List.mem_of_getElem? (i := 16) rfl)
theorem u_20_17 : (Cond.static yL_run) ∈ wsL_law := mr_20 _ (List.mem_of_getElem? (i := 17) rfl)
theorem u_20_18 : (Cond.codeWith yL_run cL_run 3 (some .int) [(0, 8, 11, 15)]) ∈ wsL_law := mr_20 _ (List.mem_of_getElem? (i := 18) rfl)
theorem u_20_19 : (Cond.methodLink RL 36 yX6_run) ∈ wsL_law := mr_20 _ (List.mem_of_getElem? (i := 19) rfl)
theorem u_20_20 : (Cond.instanceMethod yX6_run) ∈ wsL_law := mr_20 _ (List.mem_of_getElem? (i := 20) rfl)
theorem u_20_21 : (Cond.selects RX6 yX6_run yX6_run) ∈ wsL_law := mr_20 _ (List.mem_of_getElem? (i := 21) rfl)
theorem u_20_22 : (Cond.code yX6_run cX6_run 3 (some .int)) ∈ wsL_law := mr_20 _ (List.mem_of_getElem? (i := 22) rfl)
theorem u_20_23 : (Cond.methodLink RX6 130 yX5_isTurns) ∈ wsL_law := mr_20 _ (List.mem_of_getElem? (i := 23) rfl)
theorem u_21_0 : (Cond.instanceMethod yX5_isTurns) ∈ wsL_law := mr_21 _ (List.mem_of_getElem? (i := 0) rfl)
theorem u_21_1 : (Cond.selects RX5 yX5_isTurns yX5_isTurns) ∈ wsL_law := mr_21 _ (List.mem_of_getElem? (i := 1) rfl)
theorem u_21_2 : (Cond.code yX5_isTurns cX5_isTurns 3 (some .boolean)) ∈ wsL_law := mr_21 _ (List.mem_of_getElem? (i := 2) rfl)
theorem u_21_3 : (Cond.methodLink RX6 138 yX5_startsOrder) ∈ wsL_law := mr_21 _ (List.mem_of_getElem? (i := 3) rfl)
theorem u_21_4 : (Cond.instanceMethod yX5_startsOrder) ∈ wsL_law := mr_21 _ (List.mem_of_getElem? (i := 4) rfl)
theorem u_21_5 : (Cond.selects RX5 yX5_startsOrder yX5_startsOrder) ∈ wsL_law := mr_21 _ (List.mem_of_getElem? (i := 5) rfl)
theorem u_21_6 : (Cond.code yX5_startsOrder cX5_startsOrder 2 (some .boolean)) ∈ wsL_law := mr_21 _ (List.mem_of_getElem? (i := 6) rfl)
theorem u_21_7 : (Cond.methodLink RX5 37 yX5_codeAt) ∈ wsL_law := mr_21 _ (List.mem_of_getElem? (i := 7) rfl)
theorem u_21_8 : (Cond.instanceMethod yX5_codeAt) ∈ wsL_law := mr_21 _ (List.mem_of_getElem? (i := 8) rfl)
theorem u_21_9 : (Cond.selects RX5 yX5_codeAt yX5_codeAt) ∈ wsL_law := mr_21 _ (List.mem_of_getElem? (i := 9) rfl)
theorem u_21_10 : (Cond.code yX5_codeAt cX5_codeAt 2 (some .int)) ∈ wsL_law := mr_21 _ (List.mem_of_getElem? (i := 10) rfl)
theorem u_21_11 : (Cond.methodLink RX6 141 yX6_doOrder) ∈ wsL_law := mr_21 _ (List.mem_of_getElem? (i := 11) rfl)
theorem u_21_12 : (Cond.instanceMethod yX6_doOrder) ∈ wsL_law := mr_21 _ (List.mem_of_getElem? (i := 12) rfl)
theorem u_21_13 : (Cond.selects RX6 yX6_doOrder yX6_doOrder) ∈ wsL_law := mr_21 _ (List.mem_of_getElem? (i := 13) rfl)
theorem u_21_14 : (Cond.code yX6_doOrder cX6_doOrder 3 (some .boolean)) ∈ wsL_law := mr_21 _ (List.mem_of_getElem? (i := 14) rfl)
theorem u_21_15 : (Cond.methodLink RX6 221 yX5_codeAt) ∈ wsL_law := mr_21 _ (List.mem_of_getElem? (i := 15) rfl)
theorem u_21_16 : (Cond.methodLink RX6 233 yX5_digitAt) ∈ wsL_law := mr_21 _ (List.mem_of_getElem? (i := 16) rfl)
theorem u_21_17 : (Cond.instanceMethod yX5_digitAt) ∈ wsL_law := mr_21 _ (List.mem_of_getElem? (i := 17) rfl)
theorem u_21_18 : (Cond.selects RX5 yX5_digitAt yX5_digitAt) ∈ wsL_law := mr_21 _ (List.mem_of_getElem? (i := 18) rfl)
theorem u_21_19 : (Cond.code yX5_digitAt cX5_digitAt 2 (some .int)) ∈ wsL_law := mr_21 _ (List.mem_of_getElem? (i := 19) rfl)
theorem u_21_20 : (Cond.methodLink RX6 236 yX5_stepsAt) ∈ wsL_law := mr_21 _ (List.mem_of_getElem? (i := 20) rfl)
theorem u_21_21 : (Cond.instanceMethod yX5_stepsAt) ∈ wsL_law := mr_21 _ (List.mem_of_getElem? (i := 21) rfl)
theorem u_21_22 : (Cond.selects RX5 yX5_stepsAt yX5_stepsAt) ∈ wsL_law := mr_21 _ (List.mem_of_getElem? (i := 22) rfl)
theorem u_21_23 : (Cond.code yX5_stepsAt cX5_stepsAt 3 (some .int)) ∈ wsL_law := mr_21 _ (List.mem_of_getElem? (i := 23) rfl)
theorem u_22_0 : (Cond.methodLink RX5 40 yX5_digitAt) ∈ wsL_law := mr_22 _ (List.mem_of_getElem? (i := 0) rfl)
theorem u_22_1 : (Cond.methodLink RX6 239 yX5_numberAt) ∈ wsL_law := mr_22 _ (List.mem_of_getElem? (i := 1) rfl)
theorem u_22_2 : (Cond.instanceMethod yX5_numberAt) ∈ wsL_law := mr_22 _ (List.mem_of_getElem? (i := 2) rfl)
theorem u_22_3 : (Cond.selects RX5 yX5_numberAt yX5_numberAt) ∈ wsL_law := mr_22 _ (List.mem_of_getElem? (i := 3) rfl)
theorem u_22_4 : (Cond.code yX5_numberAt cX5_numberAt 3 (some .int)) ∈ wsL_law := mr_22 _ (List.mem_of_getElem? (i := 4) rfl)
theorem u_22_5 : (Cond.methodLink RL 114 yX7_run) ∈ wsL_law := mr_22 _ (List.mem_of_getElem? (i := 5) rfl)
theorem u_22_6 : (Cond.instanceMethod yX7_run) ∈ wsL_law := mr_22 _ (List.mem_of_getElem? (i := 6) rfl)
theorem u_22_7 : (Cond.selects RX7 yX7_run yX7_run) ∈ wsL_law := mr_22 _ (List.mem_of_getElem? (i := 7) rfl)
theorem u_22_8 : (Cond.code yX7_run cX7_run 3 (some .int)) ∈ wsL_law := mr_22 _ (List.mem_of_getElem? (i := 8) rfl)
theorem u_22_9 : (Cond.methodLink RX7 148 yX7_doesOrder) ∈ wsL_law := mr_22 _ (List.mem_of_getElem? (i := 9) rfl)
theorem u_22_10 : (Cond.instanceMethod yX7_doesOrder) ∈ wsL_law := mr_22 _ (List.mem_of_getElem? (i := 10) rfl)
theorem u_22_11 : (Cond.selects RX7 yX7_doesOrder yX7_doesOrder) ∈ wsL_law := mr_22 _ (List.mem_of_getElem? (i := 11) rfl)
theorem u_22_12 : (Cond.code yX7_doesOrder cX7_doesOrder 2 (some .boolean)) ∈ wsL_law := mr_22 _ (List.mem_of_getElem? (i := 12) rfl)
theorem u_22_13 : (Cond.methodLink RL 115 yL_keep) ∈ wsL_law := mr_22 _ (List.mem_of_getElem? (i := 13) rfl)
theorem u_22_14 : (Cond.static yL_keep) ∈ wsL_law := mr_22 _ (List.mem_of_getElem? (i := 14) rfl)
theorem u_22_15 : (Cond.codeWith yL_keep cL_keep 4 (some .int) [(0, 9, 12, 15)]) ∈ wsL_law := mr_22 _ (List.mem_of_getElem? (i := 15) rfl)
theorem u_22_16 : (Cond.methodLink RL 40 yX6_keep) ∈ wsL_law := mr_22 _ (List.mem_of_getElem? (i := 16) rfl)
theorem u_22_17 : (Cond.instanceMethod yX6_keep) ∈ wsL_law := mr_22 _ (List.mem_of_getElem? (i := 17) rfl)
theorem u_22_18 : (Cond.selects RX6 yX6_keep yX6_keep) ∈ wsL_law := mr_22 _ (List.mem_of_getElem? (i := 18) rfl)
theorem u_22_19 : (Cond.code yX6_keep cX6_keep 2 (some .int)) ∈ wsL_law := mr_22 _ (List.mem_of_getElem? (i := 19) rfl)
theorem u_22_20 : (Cond.fieldLink RX6 147 "CanyonBall$Canyon" "clock" "I") ∈ wsL_law := mr_22 _ (List.mem_of_getElem? (i := 20) rfl)
theorem u_22_21 : (Cond.methodLink RX6 144 yX1_copyFrom) ∈ wsL_law := mr_22 _ (List.mem_of_getElem? (i := 21) rfl)
theorem u_22_22 : (Cond.methodLink RL 117 yX7_keep) ∈ wsL_law := mr_22 _ (List.mem_of_getElem? (i := 22) rfl)
theorem u_22_23 : (Cond.instanceMethod yX7_keep) ∈ wsL_law := mr_22 _ (List.mem_of_getElem? (i := 23) rfl)
theorem u_23_0 : (Cond.selects RX7 yX7_keep yX7_keep) ∈ wsL_law := mr_23 _ (List.mem_of_getElem? (i := 0) rfl)
theorem u_23_1 : (Cond.code yX7_keep cX7_keep 3 (some .int)) ∈ wsL_law := mr_23 _ (List.mem_of_getElem? (i := 1) rfl)
theorem u_23_2 : (Cond.methodLink RL 118 yL_goBack) ∈ wsL_law := mr_23 _ (List.mem_of_getElem? (i := 2) rfl)
theorem u_23_3 : (Cond.static yL_goBack) ∈ wsL_law := mr_23 _ (List.mem_of_getElem? (i := 3) rfl)
theorem u_23_4 : (Cond.codeWith yL_goBack cL_goBack 4 (some .int) [(0, 9, 12, 15), (0, 9, 15, 27)]) ∈ wsL_law := mr_23 _ (List.mem_of_getElem? (i := 4) rfl)
theorem u_23_5 : (Cond.methodLink RL 43 yX6_goBack) ∈ wsL_law := mr_23 _ (List.mem_of_getElem? (i := 5) rfl)
theorem u_23_6 : (Cond.instanceMethod yX6_goBack) ∈ wsL_law := mr_23 _ (List.mem_of_getElem? (i := 6) rfl)
theorem u_23_7 : (Cond.selects RX6 yX6_goBack yX6_goBack) ∈ wsL_law := mr_23 _ (List.mem_of_getElem? (i := 7) rfl)
theorem u_23_8 : (Cond.code yX6_goBack cX6_goBack 2 (some .int)) ∈ wsL_law := mr_23 _ (List.mem_of_getElem? (i := 8) rfl)
theorem u_23_9 : (Cond.methodLink RL 120 yX7_goBack) ∈ wsL_law := mr_23 _ (List.mem_of_getElem? (i := 9) rfl)
theorem u_23_10 : (Cond.instanceMethod yX7_goBack) ∈ wsL_law := mr_23 _ (List.mem_of_getElem? (i := 10) rfl)
theorem u_23_11 : (Cond.selects RX7 yX7_goBack yX7_goBack) ∈ wsL_law := mr_23 _ (List.mem_of_getElem? (i := 11) rfl)
theorem u_23_12 : (Cond.code yX7_goBack cX7_goBack 3 (some .int)) ∈ wsL_law := mr_23 _ (List.mem_of_getElem? (i := 12) rfl)
theorem u_23_13 : (Cond.methodLink RL 121 yL_undo) ∈ wsL_law := mr_23 _ (List.mem_of_getElem? (i := 13) rfl)
theorem u_23_14 : (Cond.static yL_undo) ∈ wsL_law := mr_23 _ (List.mem_of_getElem? (i := 14) rfl)
theorem u_23_15 : (Cond.codeWith yL_undo cL_undo 3 (some .int) [(0, 8, 11, 27)]) ∈ wsL_law := mr_23 _ (List.mem_of_getElem? (i := 15) rfl)
theorem u_23_16 : (Cond.methodLink RL 46 yX6_undo) ∈ wsL_law := mr_23 _ (List.mem_of_getElem? (i := 16) rfl)
theorem u_23_17 : (Cond.instanceMethod yX6_undo) ∈ wsL_law := mr_23 _ (List.mem_of_getElem? (i := 17) rfl)
theorem u_23_18 : (Cond.selects RX6 yX6_undo yX6_undo) ∈ wsL_law := mr_23 _ (List.mem_of_getElem? (i := 18) rfl)
theorem u_23_19 : (Cond.code yX6_undo cX6_undo 1 (some .int)) ∈ wsL_law := mr_23 _ (List.mem_of_getElem? (i := 19) rfl)
theorem u_23_20 : (Cond.fieldLink RX6 152 "CanyonBall$History" "size" "I") ∈ wsL_law := mr_23 _ (List.mem_of_getElem? (i := 20) rfl)
theorem u_23_21 : (Cond.methodLink RX6 157 yX3_restoreLatest) ∈ wsL_law := mr_23 _ (List.mem_of_getElem? (i := 21) rfl)
theorem u_23_22 : (Cond.instanceMethod yX3_restoreLatest) ∈ wsL_law := mr_23 _ (List.mem_of_getElem? (i := 22) rfl)
theorem u_23_23 : (Cond.selects RX3 yX3_restoreLatest yX3_restoreLatest) ∈ wsL_law := mr_23 _ (List.mem_of_getElem? (i := 23) rfl)
theorem u_24_0 : (Cond.code yX3_restoreLatest cX3_restoreLatest 2 none) ∈ wsL_law := mr_24 _ (List.mem_of_getElem? (i := 0) rfl)
theorem u_24_1 : (Cond.methodLink RL 123 yX7_undo) ∈ wsL_law := mr_24 _ (List.mem_of_getElem? (i := 1) rfl)
theorem u_24_2 : (Cond.instanceMethod yX7_undo) ∈ wsL_law := mr_24 _ (List.mem_of_getElem? (i := 2) rfl)
theorem u_24_3 : (Cond.selects RX7 yX7_undo yX7_undo) ∈ wsL_law := mr_24 _ (List.mem_of_getElem? (i := 3) rfl)
theorem u_24_4 : (Cond.code yX7_undo cX7_undo 2 (some .int)) ∈ wsL_law := mr_24 _ (List.mem_of_getElem? (i := 4) rfl)
theorem u_24_5 : (Cond.methodLink RL 124 yL_playerOf) ∈ wsL_law := mr_24 _ (List.mem_of_getElem? (i := 5) rfl)
theorem u_24_6 : (Cond.static yL_playerOf) ∈ wsL_law := mr_24 _ (List.mem_of_getElem? (i := 6) rfl)
theorem u_24_7 : (Cond.codeWith yL_playerOf cL_playerOf 5 (some .int) [(0, 10, 13, 13), (0, 10, 17, 15)]) ∈ wsL_law := mr_24 _ (List.mem_of_getElem? (i := 7) rfl)
theorem u_24_8 : (Cond.methodLink RL 49 yX6_playerOf) ∈ wsL_law := mr_24 _ (List.mem_of_getElem? (i := 8) rfl)
theorem u_24_9 : (Cond.instanceMethod yX6_playerOf) ∈ wsL_law := mr_24 _ (List.mem_of_getElem? (i := 9) rfl)
theorem u_24_10 : (Cond.selects RX6 yX6_playerOf yX6_playerOf) ∈ wsL_law := mr_24 _ (List.mem_of_getElem? (i := 10) rfl)
theorem u_24_11 : (Cond.code yX6_playerOf cX6_playerOf 3 (some .int)) ∈ wsL_law := mr_24 _ (List.mem_of_getElem? (i := 11) rfl)
theorem u_24_12 : (Cond.methodLink RX6 160 yX1_playerNumber) ∈ wsL_law := mr_24 _ (List.mem_of_getElem? (i := 12) rfl)
theorem u_24_13 : (Cond.instanceMethod yX1_playerNumber) ∈ wsL_law := mr_24 _ (List.mem_of_getElem? (i := 13) rfl)
theorem u_24_14 : (Cond.selects RX1 yX1_playerNumber yX1_playerNumber) ∈ wsL_law := mr_24 _ (List.mem_of_getElem? (i := 14) rfl)
theorem u_24_15 : (Cond.code yX1_playerNumber cX1_playerNumber 3 (some .int)) ∈ wsL_law := mr_24 _ (List.mem_of_getElem? (i := 15) rfl)
theorem u_24_16 : (Cond.methodLink RL 126 yX7_playerOf) ∈ wsL_law := mr_24 _ (List.mem_of_getElem? (i := 16) rfl)
theorem u_24_17 : (Cond.instanceMethod yX7_playerOf) ∈ wsL_law := mr_24 _ (List.mem_of_getElem? (i := 17) rfl)
theorem u_24_18 : (Cond.selects RX7 yX7_playerOf yX7_playerOf) ∈ wsL_law := mr_24 _ (List.mem_of_getElem? (i := 18) rfl)
theorem u_24_19 : (Cond.code yX7_playerOf cX7_playerOf 3 (some .int)) ∈ wsL_law := mr_24 _ (List.mem_of_getElem? (i := 19) rfl)
theorem u_24_20 : (Cond.methodLink RX7 151 yX7_tellsPlayer) ∈ wsL_law := mr_24 _ (List.mem_of_getElem? (i := 20) rfl)
theorem u_24_21 : (Cond.instanceMethod yX7_tellsPlayer) ∈ wsL_law := mr_24 _ (List.mem_of_getElem? (i := 21) rfl)
theorem u_24_22 : (Cond.selects RX7 yX7_tellsPlayer yX7_tellsPlayer) ∈ wsL_law := mr_24 _ (List.mem_of_getElem? (i := 22) rfl)
theorem u_24_23 : (Cond.code yX7_tellsPlayer cX7_tellsPlayer 3 (some .int)) ∈ wsL_law := mr_24 _ (List.mem_of_getElem? (i := 23) rfl)
theorem u_25_0 : (Cond.methodLink RL 127 yL_echoOf) ∈ wsL_law := mr_25 _ (List.mem_of_getElem? (i := 0) rfl)
theorem u_25_1 : (Cond.static yL_echoOf) ∈ wsL_law := mr_25 _ (List.mem_of_getElem? (i := 1) rfl)
theorem u_25_2 : (Cond.codeWith yL_echoOf cL_echoOf 5 (some .int) [(0, 10, 13, 15)]) ∈ wsL_law := mr_25 _ (List.mem_of_getElem? (i := 2) rfl)
theorem u_25_3 : (Cond.methodLink RL 52 yX6_echoOf) ∈ wsL_law := mr_25 _ (List.mem_of_getElem? (i := 3) rfl)
theorem u_25_4 : (Cond.instanceMethod yX6_echoOf) ∈ wsL_law := mr_25 _ (List.mem_of_getElem? (i := 4) rfl)
theorem u_25_5 : (Cond.selects RX6 yX6_echoOf yX6_echoOf) ∈ wsL_law := mr_25 _ (List.mem_of_getElem? (i := 5) rfl)
theorem u_25_6 : (Cond.code yX6_echoOf cX6_echoOf 3 (some .int)) ∈ wsL_law := mr_25 _ (List.mem_of_getElem? (i := 6) rfl)
theorem u_25_7 : (Cond.methodLink RX6 165 yX1_echoNumber) ∈ wsL_law := mr_25 _ (List.mem_of_getElem? (i := 7) rfl)
theorem u_25_8 : (Cond.instanceMethod yX1_echoNumber) ∈ wsL_law := mr_25 _ (List.mem_of_getElem? (i := 8) rfl)
theorem u_25_9 : (Cond.selects RX1 yX1_echoNumber yX1_echoNumber) ∈ wsL_law := mr_25 _ (List.mem_of_getElem? (i := 9) rfl)
theorem u_25_10 : (Cond.code yX1_echoNumber cX1_echoNumber 4 (some .int)) ∈ wsL_law := mr_25 _ (List.mem_of_getElem? (i := 10) rfl)
theorem u_25_11 : (Cond.methodLink RL 129 yX7_echoOf) ∈ wsL_law := mr_25 _ (List.mem_of_getElem? (i := 11) rfl)
theorem u_25_12 : (Cond.instanceMethod yX7_echoOf) ∈ wsL_law := mr_25 _ (List.mem_of_getElem? (i := 12) rfl)
theorem u_25_13 : (Cond.selects RX7 yX7_echoOf yX7_echoOf) ∈ wsL_law := mr_25 _ (List.mem_of_getElem? (i := 13) rfl)
theorem u_25_14 : (Cond.code yX7_echoOf cX7_echoOf 3 (some .int)) ∈ wsL_law := mr_25 _ (List.mem_of_getElem? (i := 14) rfl)
theorem u_25_15 : (Cond.methodLink RX7 157 yX7_tellsEcho) ∈ wsL_law := mr_25 _ (List.mem_of_getElem? (i := 15) rfl)
theorem u_25_16 : (Cond.instanceMethod yX7_tellsEcho) ∈ wsL_law := mr_25 _ (List.mem_of_getElem? (i := 16) rfl)
theorem u_25_17 : (Cond.selects RX7 yX7_tellsEcho yX7_tellsEcho) ∈ wsL_law := mr_25 _ (List.mem_of_getElem? (i := 17) rfl)
theorem u_25_18 : (Cond.code yX7_tellsEcho cX7_tellsEcho 4 (some .int)) ∈ wsL_law := mr_25 _ (List.mem_of_getElem? (i := 18) rfl)
theorem u_25_19 : (Cond.methodLink RX7 154 yX7_echoAt) ∈ wsL_law := mr_25 _ (List.mem_of_getElem? (i := 19) rfl)
theorem u_25_20 : (Cond.instanceMethod yX7_echoAt) ∈ wsL_law := mr_25 _ (List.mem_of_getElem? (i := 20) rfl)
theorem u_25_21 : (Cond.selects RX7 yX7_echoAt yX7_echoAt) ∈ wsL_law := mr_25 _ (List.mem_of_getElem? (i := 21) rfl)
theorem u_25_22 : (Cond.code yX7_echoAt cX7_echoAt 7 (some .int)) ∈ wsL_law := mr_25 _ (List.mem_of_getElem? (i := 22) rfl)
theorem u_25_23 : (Cond.methodLink RL 130 yL_count) ∈ wsL_law := mr_25 _ (List.mem_of_getElem? (i := 23) rfl)
theorem u_26_0 : (Cond.static yL_count) ∈ wsL_law := mr_26 _ (List.mem_of_getElem? (i := 0) rfl)
theorem u_26_1 : (Cond.codeWith yL_count cL_count 4 (some .int) [(0, 9, 12, 15)]) ∈ wsL_law := mr_26 _ (List.mem_of_getElem? (i := 1) rfl)
theorem u_26_2 : (Cond.methodLink RL 55 yX6_count) ∈ wsL_law := mr_26 _ (List.mem_of_getElem? (i := 2) rfl)
theorem u_26_3 : (Cond.instanceMethod yX6_count) ∈ wsL_law := mr_26 _ (List.mem_of_getElem? (i := 3) rfl)
theorem u_26_4 : (Cond.selects RX6 yX6_count yX6_count) ∈ wsL_law := mr_26 _ (List.mem_of_getElem? (i := 4) rfl)
theorem u_26_5 : (Cond.code yX6_count cX6_count 2 (some .int)) ∈ wsL_law := mr_26 _ (List.mem_of_getElem? (i := 5) rfl)
theorem u_26_6 : (Cond.methodLink RX6 168 yX6_countNumber) ∈ wsL_law := mr_26 _ (List.mem_of_getElem? (i := 6) rfl)
theorem u_26_7 : (Cond.instanceMethod yX6_countNumber) ∈ wsL_law := mr_26 _ (List.mem_of_getElem? (i := 7) rfl)
theorem u_26_8 : (Cond.selects RX6 yX6_countNumber yX6_countNumber) ∈ wsL_law := mr_26 _ (List.mem_of_getElem? (i := 8) rfl)
theorem u_26_9 : (Cond.code yX6_countNumber cX6_countNumber 2 (some .int)) ∈ wsL_law := mr_26 _ (List.mem_of_getElem? (i := 9) rfl)
theorem u_26_10 : (Cond.methodLink RX6 242 yX1_number) ∈ wsL_law := mr_26 _ (List.mem_of_getElem? (i := 10) rfl)
theorem u_26_11 : (Cond.instanceMethod yX1_number) ∈ wsL_law := mr_26 _ (List.mem_of_getElem? (i := 11) rfl)
theorem u_26_12 : (Cond.selects RX1 yX1_number yX1_number) ∈ wsL_law := mr_26 _ (List.mem_of_getElem? (i := 12) rfl)
theorem u_26_13 : (Cond.code yX1_number cX1_number 2 (some .int)) ∈ wsL_law := mr_26 _ (List.mem_of_getElem? (i := 13) rfl)
theorem u_26_14 : (Cond.fieldLink RX1 159 "CanyonBall$Ball" "speed" "I") ∈ wsL_law := mr_26 _ (List.mem_of_getElem? (i := 14) rfl)
theorem u_26_15 : (Cond.methodLink RX1 162 yX0_rightNumber) ∈ wsL_law := mr_26 _ (List.mem_of_getElem? (i := 15) rfl)
theorem u_26_16 : (Cond.instanceMethod yX0_rightNumber) ∈ wsL_law := mr_26 _ (List.mem_of_getElem? (i := 16) rfl)
theorem u_26_17 : (Cond.selects RX0 yX0_rightNumber yX0_rightNumber) ∈ wsL_law := mr_26 _ (List.mem_of_getElem? (i := 17) rfl)
theorem u_26_18 : (Cond.code yX0_rightNumber cX0_rightNumber 1 (some .int)) ∈ wsL_law := mr_26 _ (List.mem_of_getElem? (i := 18) rfl)
theorem u_26_19 : (Cond.methodLink RX1 153 yX1_sumOfPlayers) ∈ wsL_law := mr_26 _ (List.mem_of_getElem? (i := 19) rfl)
theorem u_26_20 : (Cond.instanceMethod yX1_sumOfPlayers) ∈ wsL_law := mr_26 _ (List.mem_of_getElem? (i := 20) rfl)
theorem u_26_21 : (Cond.selects RX1 yX1_sumOfPlayers yX1_sumOfPlayers) ∈ wsL_law := mr_26 _ (List.mem_of_getElem? (i := 21) rfl)
theorem u_26_22 : (Cond.code yX1_sumOfPlayers cX1_sumOfPlayers 4 (some .int)) ∈ wsL_law := mr_26 _ (List.mem_of_getElem? (i := 22) rfl)
theorem u_26_23 : (Cond.methodLink RX1 156 yX1_playerNumber) ∈ wsL_law := mr_26 _ (List.mem_of_getElem? (i := 23) rfl)
theorem u_27_0 : (Cond.methodLink RL 132 yX7_count) ∈ wsL_law := mr_27 _ (List.mem_of_getElem? (i := 0) rfl)
theorem u_27_1 : (Cond.instanceMethod yX7_count) ∈ wsL_law := mr_27 _ (List.mem_of_getElem? (i := 1) rfl)
theorem u_27_2 : (Cond.selects RX7 yX7_count yX7_count) ∈ wsL_law := mr_27 _ (List.mem_of_getElem? (i := 2) rfl)
theorem u_27_3 : (Cond.code yX7_count cX7_count 2 (some .int)) ∈ wsL_law := mr_27 _ (List.mem_of_getElem? (i := 3) rfl)
theorem u_27_4 : (Cond.methodLink RX7 163 yX7_tellsCount) ∈ wsL_law := mr_27 _ (List.mem_of_getElem? (i := 4) rfl)
theorem u_27_5 : (Cond.instanceMethod yX7_tellsCount) ∈ wsL_law := mr_27 _ (List.mem_of_getElem? (i := 5) rfl)
theorem u_27_6 : (Cond.selects RX7 yX7_tellsCount yX7_tellsCount) ∈ wsL_law := mr_27 _ (List.mem_of_getElem? (i := 6) rfl)
theorem u_27_7 : (Cond.code yX7_tellsCount cX7_tellsCount 2 (some .int)) ∈ wsL_law := mr_27 _ (List.mem_of_getElem? (i := 7) rfl)
theorem u_27_8 : (Cond.methodLink RX7 160 yX7_sum) ∈ wsL_law := mr_27 _ (List.mem_of_getElem? (i := 8) rfl)
theorem u_27_9 : (Cond.instanceMethod yX7_sum) ∈ wsL_law := mr_27 _ (List.mem_of_getElem? (i := 9) rfl)
theorem u_27_10 : (Cond.selects RX7 yX7_sum yX7_sum) ∈ wsL_law := mr_27 _ (List.mem_of_getElem? (i := 10) rfl)
theorem u_27_11 : (Cond.code yX7_sum cX7_sum 4 (some .int)) ∈ wsL_law := mr_27 _ (List.mem_of_getElem? (i := 11) rfl)
theorem u_27_12 : (Cond.methodLink RL 133 yL_setting) ∈ wsL_law := mr_27 _ (List.mem_of_getElem? (i := 12) rfl)
theorem u_27_13 : (Cond.static yL_setting) ∈ wsL_law := mr_27 _ (List.mem_of_getElem? (i := 13) rfl)
theorem u_27_14 : (Cond.codeWith yL_setting cL_setting 4 (some .int) [(0, 9, 12, 13)]) ∈ wsL_law := mr_27 _ (List.mem_of_getElem? (i := 14) rfl)
theorem u_27_15 : (Cond.methodLink RL 58 yX6_setting) ∈ wsL_law := mr_27 _ (List.mem_of_getElem? (i := 15) rfl)
theorem u_27_16 : (Cond.instanceMethod yX6_setting) ∈ wsL_law := mr_27 _ (List.mem_of_getElem? (i := 16) rfl)
theorem u_27_17 : (Cond.selects RX6 yX6_setting yX6_setting) ∈ wsL_law := mr_27 _ (List.mem_of_getElem? (i := 17) rfl)
theorem u_27_18 : (Cond.code yX6_setting cX6_setting 2 (some .int)) ∈ wsL_law := mr_27 _ (List.mem_of_getElem? (i := 18) rfl)
theorem u_27_19 : (Cond.methodLink RL 135 yX7_setting) ∈ wsL_law := mr_27 _ (List.mem_of_getElem? (i := 19) rfl)
theorem u_27_20 : (Cond.instanceMethod yX7_setting) ∈ wsL_law := mr_27 _ (List.mem_of_getElem? (i := 20) rfl)
theorem u_27_21 : (Cond.selects RX7 yX7_setting yX7_setting) ∈ wsL_law := mr_27 _ (List.mem_of_getElem? (i := 21) rfl)
theorem u_27_22 : (Cond.code yX7_setting cX7_setting 2 (some .int)) ∈ wsL_law := mr_27 _ (List.mem_of_getElem? (i := 22) rfl)
theorem u_27_23 : (Cond.methodLink RL 136 yL_ballIn) ∈ wsL_law := mr_27 _ (List.mem_of_getElem? (i := 23) rfl)
theorem u_28_0 : (Cond.static yL_ballIn) ∈ wsL_law := mr_28 _ (List.mem_of_getElem? (i := 0) rfl)
theorem u_28_1 : (Cond.codeWith yL_ballIn cL_ballIn 5 (some .int) [(0, 10, 13, 15)]) ∈ wsL_law := mr_28 _ (List.mem_of_getElem? (i := 1) rfl)
theorem u_28_2 : (Cond.methodLink RL 61 yX6_ballIn) ∈ wsL_law := mr_28 _ (List.mem_of_getElem? (i := 2) rfl)
theorem u_28_3 : (Cond.instanceMethod yX6_ballIn) ∈ wsL_law := mr_28 _ (List.mem_of_getElem? (i := 3) rfl)
theorem u_28_4 : (Cond.selects RX6 yX6_ballIn yX6_ballIn) ∈ wsL_law := mr_28 _ (List.mem_of_getElem? (i := 4) rfl)
theorem u_28_5 : (Cond.code yX6_ballIn cX6_ballIn 3 (some .int)) ∈ wsL_law := mr_28 _ (List.mem_of_getElem? (i := 5) rfl)
theorem u_28_6 : (Cond.methodLink RX6 171 yX6_ballNumber) ∈ wsL_law := mr_28 _ (List.mem_of_getElem? (i := 6) rfl)
theorem u_28_7 : (Cond.instanceMethod yX6_ballNumber) ∈ wsL_law := mr_28 _ (List.mem_of_getElem? (i := 7) rfl)
theorem u_28_8 : (Cond.selects RX6 yX6_ballNumber yX6_ballNumber) ∈ wsL_law := mr_28 _ (List.mem_of_getElem? (i := 8) rfl)
theorem u_28_9 : (Cond.code yX6_ballNumber cX6_ballNumber 4 (some .int)) ∈ wsL_law := mr_28 _ (List.mem_of_getElem? (i := 9) rfl)
theorem u_28_10 : (Cond.methodLink RX6 245 yX0_unfoldedPlaceIn) ∈ wsL_law := mr_28 _ (List.mem_of_getElem? (i := 10) rfl)
theorem u_28_11 : (Cond.instanceMethod yX0_unfoldedPlaceIn) ∈ wsL_law := mr_28 _ (List.mem_of_getElem? (i := 11) rfl)
theorem u_28_12 : (Cond.selects RX0 yX0_unfoldedPlaceIn yX0_unfoldedPlaceIn) ∈ wsL_law := mr_28 _ (List.mem_of_getElem? (i := 12) rfl)
theorem u_28_13 : (Cond.code yX0_unfoldedPlaceIn cX0_unfoldedPlaceIn 6 (some .int)) ∈ wsL_law := mr_28 _ (List.mem_of_getElem? (i := 13) rfl)
theorem u_28_14 : (Cond.methodLink RX6 248 yX0_copyFrom) ∈ wsL_law := mr_28 _ (List.mem_of_getElem? (i := 14) rfl)
theorem u_28_15 : (Cond.methodLink RX6 251 yX0_goTurn) ∈ wsL_law := mr_28 _ (List.mem_of_getElem? (i := 15) rfl)
theorem u_28_16 : (Cond.methodLink RX6 254 yX0_rightNumber) ∈ wsL_law := mr_28 _ (List.mem_of_getElem? (i := 16) rfl)
theorem u_28_17 : (Cond.methodLink RL 138 yX7_ballIn) ∈ wsL_law := mr_28 _ (List.mem_of_getElem? (i := 17) rfl)
theorem u_28_18 : (Cond.instanceMethod yX7_ballIn) ∈ wsL_law := mr_28 _ (List.mem_of_getElem? (i := 18) rfl)
theorem u_28_19 : (Cond.selects RX7 yX7_ballIn yX7_ballIn) ∈ wsL_law := mr_28 _ (List.mem_of_getElem? (i := 19) rfl)
theorem u_28_20 : (Cond.code yX7_ballIn cX7_ballIn 3 (some .int)) ∈ wsL_law := mr_28 _ (List.mem_of_getElem? (i := 20) rfl)
theorem u_28_21 : (Cond.methodLink RX7 169 yX7_tellsBall) ∈ wsL_law := mr_28 _ (List.mem_of_getElem? (i := 21) rfl)
theorem u_28_22 : (Cond.instanceMethod yX7_tellsBall) ∈ wsL_law := mr_28 _ (List.mem_of_getElem? (i := 22) rfl)
theorem u_28_23 : (Cond.selects RX7 yX7_tellsBall yX7_tellsBall) ∈ wsL_law := mr_28 _ (List.mem_of_getElem? (i := 23) rfl)
theorem u_29_0 : (Cond.code yX7_tellsBall cX7_tellsBall 4 (some .int)) ∈ wsL_law := mr_29 _ (List.mem_of_getElem? (i := 0) rfl)
theorem u_29_1 : (Cond.methodLink RX7 166 yX7_unfolded) ∈ wsL_law := mr_29 _ (List.mem_of_getElem? (i := 1) rfl)
theorem u_29_2 : (Cond.instanceMethod yX7_unfolded) ∈ wsL_law := mr_29 _ (List.mem_of_getElem? (i := 2) rfl)
theorem u_29_3 : (Cond.selects RX7 yX7_unfolded yX7_unfolded) ∈ wsL_law := mr_29 _ (List.mem_of_getElem? (i := 3) rfl)
theorem u_29_4 : (Cond.code yX7_unfolded cX7_unfolded 4 (some .int)) ∈ wsL_law := mr_29 _ (List.mem_of_getElem? (i := 4) rfl)
theorem u_29_5 : (Cond.methodLink RL 139 yL_echoIn) ∈ wsL_law := mr_29 _ (List.mem_of_getElem? (i := 5) rfl)
theorem u_29_6 : (Cond.static yL_echoIn) ∈ wsL_law := mr_29 _ (List.mem_of_getElem? (i := 6) rfl)
theorem u_29_7 : (Cond.codeWith yL_echoIn cL_echoIn 5 (some .int) [(0, 10, 13, 13), (0, 10, 17, 15)]) ∈ wsL_law := mr_29 _ (List.mem_of_getElem? (i := 7) rfl)
theorem u_29_8 : (Cond.methodLink RL 64 yX6_echoIn) ∈ wsL_law := mr_29 _ (List.mem_of_getElem? (i := 8) rfl)
theorem u_29_9 : (Cond.instanceMethod yX6_echoIn) ∈ wsL_law := mr_29 _ (List.mem_of_getElem? (i := 9) rfl)
theorem u_29_10 : (Cond.selects RX6 yX6_echoIn yX6_echoIn) ∈ wsL_law := mr_29 _ (List.mem_of_getElem? (i := 10) rfl)
theorem u_29_11 : (Cond.code yX6_echoIn cX6_echoIn 3 (some .int)) ∈ wsL_law := mr_29 _ (List.mem_of_getElem? (i := 11) rfl)
theorem u_29_12 : (Cond.fieldLink RX6 174 "CanyonBall$Canyon" "players" "[LCanyonBall$Player;") ∈ wsL_law := mr_29 _ (List.mem_of_getElem? (i := 12) rfl)
theorem u_29_13 : (Cond.fieldLink RX6 178 "CanyonBall$Player" "place" "I") ∈ wsL_law := mr_29 _ (List.mem_of_getElem? (i := 13) rfl)
theorem u_29_14 : (Cond.methodLink RX6 181 yX1_echoTime) ∈ wsL_law := mr_29 _ (List.mem_of_getElem? (i := 14) rfl)
theorem u_29_15 : (Cond.methodLink RL 141 yX7_echoIn) ∈ wsL_law := mr_29 _ (List.mem_of_getElem? (i := 15) rfl)
theorem u_29_16 : (Cond.instanceMethod yX7_echoIn) ∈ wsL_law := mr_29 _ (List.mem_of_getElem? (i := 16) rfl)
theorem u_29_17 : (Cond.selects RX7 yX7_echoIn yX7_echoIn) ∈ wsL_law := mr_29 _ (List.mem_of_getElem? (i := 17) rfl)
theorem u_29_18 : (Cond.code yX7_echoIn cX7_echoIn 3 (some .int)) ∈ wsL_law := mr_29 _ (List.mem_of_getElem? (i := 18) rfl)
theorem u_29_19 : (Cond.methodLink RX7 172 yX7_delayOf) ∈ wsL_law := mr_29 _ (List.mem_of_getElem? (i := 19) rfl)
theorem u_29_20 : (Cond.instanceMethod yX7_delayOf) ∈ wsL_law := mr_29 _ (List.mem_of_getElem? (i := 20) rfl)
theorem u_29_21 : (Cond.selects RX7 yX7_delayOf yX7_delayOf) ∈ wsL_law := mr_29 _ (List.mem_of_getElem? (i := 21) rfl)
theorem u_29_22 : (Cond.code yX7_delayOf cX7_delayOf 3 (some .int)) ∈ wsL_law := mr_29 _ (List.mem_of_getElem? (i := 22) rfl)
theorem u_29_23 : (Cond.methodLink RL 142 yL_wouldClash) ∈ wsL_law := mr_29 _ (List.mem_of_getElem? (i := 23) rfl)
theorem u_30_0 : (Cond.static yL_wouldClash) ∈ wsL_law := mr_30 _ (List.mem_of_getElem? (i := 0) rfl)
theorem u_30_1 : (Cond.codeWith yL_wouldClash cL_wouldClash 5 (some .int) [(0, 10, 13, 13), (0, 10, 17, 15)]) ∈ wsL_law := mr_30 _ (List.mem_of_getElem? (i := 1) rfl)
theorem u_30_2 : (Cond.methodLink RL 67 yX6_wouldClash) ∈ wsL_law := mr_30 _ (List.mem_of_getElem? (i := 2) rfl)
theorem u_30_3 : (Cond.instanceMethod yX6_wouldClash) ∈ wsL_law := mr_30 _ (List.mem_of_getElem? (i := 3) rfl)
theorem u_30_4 : (Cond.selects RX6 yX6_wouldClash yX6_wouldClash) ∈ wsL_law := mr_30 _ (List.mem_of_getElem? (i := 4) rfl)
theorem u_30_5 : (Cond.code yX6_wouldClash cX6_wouldClash 3 (some .int)) ∈ wsL_law := mr_30 _ (List.mem_of_getElem? (i := 5) rfl)
theorem u_30_6 : (Cond.methodLink RX6 184 yX1_newEchoClashes) ∈ wsL_law := mr_30 _ (List.mem_of_getElem? (i := 6) rfl)
theorem u_30_7 : (Cond.instanceMethod yX1_newEchoClashes) ∈ wsL_law := mr_30 _ (List.mem_of_getElem? (i := 7) rfl)
theorem u_30_8 : (Cond.selects RX1 yX1_newEchoClashes yX1_newEchoClashes) ∈ wsL_law := mr_30 _ (List.mem_of_getElem? (i := 8) rfl)
theorem u_30_9 : (Cond.code yX1_newEchoClashes cX1_newEchoClashes 5 (some .boolean)) ∈ wsL_law := mr_30 _ (List.mem_of_getElem? (i := 9) rfl)
theorem u_30_10 : (Cond.methodLink RX1 140 yX1_isEchoDue) ∈ wsL_law := mr_30 _ (List.mem_of_getElem? (i := 10) rfl)
theorem u_30_11 : (Cond.instanceMethod yX1_isEchoDue) ∈ wsL_law := mr_30 _ (List.mem_of_getElem? (i := 11) rfl)
theorem u_30_12 : (Cond.selects RX1 yX1_isEchoDue yX1_isEchoDue) ∈ wsL_law := mr_30 _ (List.mem_of_getElem? (i := 12) rfl)
theorem u_30_13 : (Cond.code yX1_isEchoDue cX1_isEchoDue 4 (some .boolean)) ∈ wsL_law := mr_30 _ (List.mem_of_getElem? (i := 13) rfl)
theorem u_30_14 : (Cond.methodLink RL 144 yX7_wouldClash) ∈ wsL_law := mr_30 _ (List.mem_of_getElem? (i := 14) rfl)
theorem u_30_15 : (Cond.instanceMethod yX7_wouldClash) ∈ wsL_law := mr_30 _ (List.mem_of_getElem? (i := 15) rfl)
theorem u_30_16 : (Cond.selects RX7 yX7_wouldClash yX7_wouldClash) ∈ wsL_law := mr_30 _ (List.mem_of_getElem? (i := 16) rfl)
theorem u_30_17 : (Cond.code yX7_wouldClash cX7_wouldClash 3 (some .int)) ∈ wsL_law := mr_30 _ (List.mem_of_getElem? (i := 17) rfl)
theorem u_30_18 : (Cond.methodLink RX7 175 yX7_isClash) ∈ wsL_law := mr_30 _ (List.mem_of_getElem? (i := 18) rfl)
theorem u_30_19 : (Cond.instanceMethod yX7_isClash) ∈ wsL_law := mr_30 _ (List.mem_of_getElem? (i := 19) rfl)
theorem u_30_20 : (Cond.selects RX7 yX7_isClash yX7_isClash) ∈ wsL_law := mr_30 _ (List.mem_of_getElem? (i := 20) rfl)
theorem u_30_21 : (Cond.code yX7_isClash cX7_isClash 6 (some .boolean)) ∈ wsL_law := mr_30 _ (List.mem_of_getElem? (i := 21) rfl)
theorem u_30_22 : (Cond.methodLink RL 145 yL_callIn) ∈ wsL_law := mr_30 _ (List.mem_of_getElem? (i := 22) rfl)
theorem u_30_23 : (Cond.static yL_callIn) ∈ wsL_law := mr_30 _ (List.mem_of_getElem? (i := 23) rfl)
theorem u_31_0 : (Cond.codeWith yL_callIn cL_callIn 4 (some .int) [(0, 9, 12, 13)]) ∈ wsL_law := mr_31 _ (List.mem_of_getElem? (i := 0) rfl)
theorem u_31_1 : (Cond.methodLink RL 70 yX6_callIn) ∈ wsL_law := mr_31 _ (List.mem_of_getElem? (i := 1) rfl)
theorem u_31_2 : (Cond.instanceMethod yX6_callIn) ∈ wsL_law := mr_31 _ (List.mem_of_getElem? (i := 2) rfl)
theorem u_31_3 : (Cond.selects RX6 yX6_callIn yX6_callIn) ∈ wsL_law := mr_31 _ (List.mem_of_getElem? (i := 3) rfl)
theorem u_31_4 : (Cond.code yX6_callIn cX6_callIn 2 (some .int)) ∈ wsL_law := mr_31 _ (List.mem_of_getElem? (i := 4) rfl)
theorem u_31_5 : (Cond.methodLink RX6 188 yX1_turnsToWait) ∈ wsL_law := mr_31 _ (List.mem_of_getElem? (i := 5) rfl)
theorem u_31_6 : (Cond.instanceMethod yX1_turnsToWait) ∈ wsL_law := mr_31 _ (List.mem_of_getElem? (i := 6) rfl)
theorem u_31_7 : (Cond.selects RX1 yX1_turnsToWait yX1_turnsToWait) ∈ wsL_law := mr_31 _ (List.mem_of_getElem? (i := 7) rfl)
theorem u_31_8 : (Cond.code yX1_turnsToWait cX1_turnsToWait 6 (some .int)) ∈ wsL_law := mr_31 _ (List.mem_of_getElem? (i := 8) rfl)
theorem u_31_9 : (Cond.methodLink RX1 143 yX1_meetsBallAlone) ∈ wsL_law := mr_31 _ (List.mem_of_getElem? (i := 9) rfl)
theorem u_31_10 : (Cond.instanceMethod yX1_meetsBallAlone) ∈ wsL_law := mr_31 _ (List.mem_of_getElem? (i := 10) rfl)
theorem u_31_11 : (Cond.selects RX1 yX1_meetsBallAlone yX1_meetsBallAlone) ∈ wsL_law := mr_31 _ (List.mem_of_getElem? (i := 11) rfl)
theorem u_31_12 : (Cond.code yX1_meetsBallAlone cX1_meetsBallAlone 3 (some .boolean)) ∈ wsL_law := mr_31 _ (List.mem_of_getElem? (i := 12) rfl)
theorem u_31_13 : (Cond.methodLink RX1 146 yX0_unfoldedPlaceIn) ∈ wsL_law := mr_31 _ (List.mem_of_getElem? (i := 13) rfl)
theorem u_31_14 : (Cond.methodLink RL 147 yX7_callIn) ∈ wsL_law := mr_31 _ (List.mem_of_getElem? (i := 14) rfl)
theorem u_31_15 : (Cond.instanceMethod yX7_callIn) ∈ wsL_law := mr_31 _ (List.mem_of_getElem? (i := 15) rfl)
theorem u_31_16 : (Cond.selects RX7 yX7_callIn yX7_callIn) ∈ wsL_law := mr_31 _ (List.mem_of_getElem? (i := 16) rfl)
theorem u_31_17 : (Cond.code yX7_callIn cX7_callIn 2 (some .int)) ∈ wsL_law := mr_31 _ (List.mem_of_getElem? (i := 17) rfl)
theorem u_31_18 : (Cond.methodLink RX7 181 yX7_bestWait) ∈ wsL_law := mr_31 _ (List.mem_of_getElem? (i := 18) rfl)
theorem u_31_19 : (Cond.instanceMethod yX7_bestWait) ∈ wsL_law := mr_31 _ (List.mem_of_getElem? (i := 19) rfl)
theorem u_31_20 : (Cond.selects RX7 yX7_bestWait yX7_bestWait) ∈ wsL_law := mr_31 _ (List.mem_of_getElem? (i := 20) rfl)
theorem u_31_21 : (Cond.code yX7_bestWait cX7_bestWait 3 (some .int)) ∈ wsL_law := mr_31 _ (List.mem_of_getElem? (i := 21) rfl)
theorem u_31_22 : (Cond.methodLink RX7 178 yX7_meetsBall) ∈ wsL_law := mr_31 _ (List.mem_of_getElem? (i := 22) rfl)
theorem u_31_23 : (Cond.instanceMethod yX7_meetsBall) ∈ wsL_law := mr_31 _ (List.mem_of_getElem? (i := 23) rfl)
theorem u_32_0 : (Cond.selects RX7 yX7_meetsBall yX7_meetsBall) ∈ wsL_law := mr_32 _ (List.mem_of_getElem? (i := 0) rfl)
theorem u_32_1 : (Cond.code yX7_meetsBall cX7_meetsBall 5 (some .boolean)) ∈ wsL_law := mr_32 _ (List.mem_of_getElem? (i := 1) rfl)
theorem u_32_2 : (Cond.methodLink RL 148 yX6_quietIn) ∈ wsL_law := mr_32 _ (List.mem_of_getElem? (i := 2) rfl)
theorem u_32_3 : (Cond.instanceMethod yX6_quietIn) ∈ wsL_law := mr_32 _ (List.mem_of_getElem? (i := 3) rfl)
theorem u_32_4 : (Cond.selects RX6 yX6_quietIn yX6_quietIn) ∈ wsL_law := mr_32 _ (List.mem_of_getElem? (i := 4) rfl)
theorem u_32_5 : (Cond.code yX6_quietIn cX6_quietIn 1 (some .int)) ∈ wsL_law := mr_32 _ (List.mem_of_getElem? (i := 5) rfl)
theorem u_32_6 : (Cond.methodLink RX6 191 yX1_turnsToQuiet) ∈ wsL_law := mr_32 _ (List.mem_of_getElem? (i := 6) rfl)
theorem u_32_7 : (Cond.instanceMethod yX1_turnsToQuiet) ∈ wsL_law := mr_32 _ (List.mem_of_getElem? (i := 7) rfl)
theorem u_32_8 : (Cond.selects RX1 yX1_turnsToQuiet yX1_turnsToQuiet) ∈ wsL_law := mr_32 _ (List.mem_of_getElem? (i := 8) rfl)
theorem u_32_9 : (Cond.code yX1_turnsToQuiet cX1_turnsToQuiet 1 (some .int)) ∈ wsL_law := mr_32 _ (List.mem_of_getElem? (i := 9) rfl)
theorem u_32_10 : (Cond.methodLink RL 151 yX7_quietIn) ∈ wsL_law := mr_32 _ (List.mem_of_getElem? (i := 10) rfl)
theorem u_32_11 : (Cond.instanceMethod yX7_quietIn) ∈ wsL_law := mr_32 _ (List.mem_of_getElem? (i := 11) rfl)
theorem u_32_12 : (Cond.selects RX7 yX7_quietIn yX7_quietIn) ∈ wsL_law := mr_32 _ (List.mem_of_getElem? (i := 12) rfl)
theorem u_32_13 : (Cond.code yX7_quietIn cX7_quietIn 1 (some .int)) ∈ wsL_law := mr_32 _ (List.mem_of_getElem? (i := 13) rfl)
theorem u_32_14 : (Cond.methodLink RX7 184 yX7_tellsQuiet) ∈ wsL_law := mr_32 _ (List.mem_of_getElem? (i := 14) rfl)
theorem u_32_15 : (Cond.instanceMethod yX7_tellsQuiet) ∈ wsL_law := mr_32 _ (List.mem_of_getElem? (i := 15) rfl)
theorem u_32_16 : (Cond.selects RX7 yX7_tellsQuiet yX7_tellsQuiet) ∈ wsL_law := mr_32 _ (List.mem_of_getElem? (i := 16) rfl)
theorem u_32_17 : (Cond.code yX7_tellsQuiet cX7_tellsQuiet 3 (some .int)) ∈ wsL_law := mr_32 _ (List.mem_of_getElem? (i := 17) rfl)
theorem u_32_18 : (Cond.methodLink RL 152 yX6_best) ∈ wsL_law := mr_32 _ (List.mem_of_getElem? (i := 18) rfl)
theorem u_32_19 : (Cond.instanceMethod yX6_best) ∈ wsL_law := mr_32 _ (List.mem_of_getElem? (i := 19) rfl)
theorem u_32_20 : (Cond.selects RX6 yX6_best yX6_best) ∈ wsL_law := mr_32 _ (List.mem_of_getElem? (i := 20) rfl)
theorem u_32_21 : (Cond.code yX6_best cX6_best 1 (some .int)) ∈ wsL_law := mr_32 _ (List.mem_of_getElem? (i := 21) rfl)
theorem u_32_22 : (Cond.methodLink RX6 194 yX1_bestPlayer) ∈ wsL_law := mr_32 _ (List.mem_of_getElem? (i := 22) rfl)
theorem u_32_23 : (Cond.instanceMethod yX1_bestPlayer) ∈ wsL_law := mr_32 _ (List.mem_of_getElem? (i := 23) rfl)
theorem u_33_0 : (Cond.selects RX1 yX1_bestPlayer yX1_bestPlayer) ∈ wsL_law := mr_33 _ (List.mem_of_getElem? (i := 0) rfl)
theorem u_33_1 : (Cond.code yX1_bestPlayer cX1_bestPlayer 3 (some .int)) ∈ wsL_law := mr_33 _ (List.mem_of_getElem? (i := 1) rfl)
theorem u_33_2 : (Cond.methodLink RX1 149 yX4_isBetterThan) ∈ wsL_law := mr_33 _ (List.mem_of_getElem? (i := 2) rfl)
theorem u_33_3 : (Cond.instanceMethod yX4_isBetterThan) ∈ wsL_law := mr_33 _ (List.mem_of_getElem? (i := 3) rfl)
theorem u_33_4 : (Cond.selects RX4 yX4_isBetterThan yX4_isBetterThan) ∈ wsL_law := mr_33 _ (List.mem_of_getElem? (i := 4) rfl)
theorem u_33_5 : (Cond.code yX4_isBetterThan cX4_isBetterThan 2 (some .boolean)) ∈ wsL_law := mr_33 _ (List.mem_of_getElem? (i := 5) rfl)
theorem u_33_6 : (Cond.methodLink RL 155 yX7_best) ∈ wsL_law := mr_33 _ (List.mem_of_getElem? (i := 6) rfl)
theorem u_33_7 : (Cond.instanceMethod yX7_best) ∈ wsL_law := mr_33 _ (List.mem_of_getElem? (i := 7) rfl)
theorem u_33_8 : (Cond.selects RX7 yX7_best yX7_best) ∈ wsL_law := mr_33 _ (List.mem_of_getElem? (i := 8) rfl)
theorem u_33_9 : (Cond.code yX7_best cX7_best 1 (some .int)) ∈ wsL_law := mr_33 _ (List.mem_of_getElem? (i := 9) rfl)
theorem u_33_10 : (Cond.methodLink RX7 187 yX7_tellsBest) ∈ wsL_law := mr_33 _ (List.mem_of_getElem? (i := 10) rfl)
theorem u_33_11 : (Cond.instanceMethod yX7_tellsBest) ∈ wsL_law := mr_33 _ (List.mem_of_getElem? (i := 11) rfl)
theorem u_33_12 : (Cond.selects RX7 yX7_tellsBest yX7_tellsBest) ∈ wsL_law := mr_33 _ (List.mem_of_getElem? (i := 12) rfl)
theorem u_33_13 : (Cond.code yX7_tellsBest cX7_tellsBest 5 (some .int)) ∈ wsL_law := mr_33 _ (List.mem_of_getElem? (i := 13) rfl)
theorem u_33_14 : (Cond.methodLink RL 156 yX6_answeredShare) ∈ wsL_law := mr_33 _ (List.mem_of_getElem? (i := 14) rfl)
theorem u_33_15 : (Cond.instanceMethod yX6_answeredShare) ∈ wsL_law := mr_33 _ (List.mem_of_getElem? (i := 15) rfl)
theorem u_33_16 : (Cond.selects RX6 yX6_answeredShare yX6_answeredShare) ∈ wsL_law := mr_33 _ (List.mem_of_getElem? (i := 16) rfl)
theorem u_33_17 : (Cond.code yX6_answeredShare cX6_answeredShare 1 (some .double)) ∈ wsL_law := mr_33 _ (List.mem_of_getElem? (i := 17) rfl)
theorem u_33_18 : (Cond.methodLink RX6 197 yX1_shareAnswered) ∈ wsL_law := mr_33 _ (List.mem_of_getElem? (i := 18) rfl)
theorem u_33_19 : (Cond.instanceMethod yX1_shareAnswered) ∈ wsL_law := mr_33 _ (List.mem_of_getElem? (i := 19) rfl)
theorem u_33_20 : (Cond.selects RX1 yX1_shareAnswered yX1_shareAnswered) ∈ wsL_law := mr_33 _ (List.mem_of_getElem? (i := 20) rfl)
theorem u_33_21 : (Cond.code yX1_shareAnswered cX1_shareAnswered 3 (some .double)) ∈ wsL_law := mr_33 _ (List.mem_of_getElem? (i := 21) rfl)
theorem u_33_22 : (Cond.methodLink RL 160 yX7_answeredShare) ∈ wsL_law := mr_33 _ (List.mem_of_getElem? (i := 22) rfl)
theorem u_33_23 : (Cond.instanceMethod yX7_answeredShare) ∈ wsL_law := mr_33 _ (List.mem_of_getElem? (i := 23) rfl)
theorem u_34_0 : (Cond.selects RX7 yX7_answeredShare yX7_answeredShare) ∈ wsL_law := mr_34 _ (List.mem_of_getElem? (i := 0) rfl)
theorem u_34_1 : (Cond.code yX7_answeredShare cX7_answeredShare 1 (some .double)) ∈ wsL_law := mr_34 _ (List.mem_of_getElem? (i := 1) rfl)
theorem u_34_2 : (Cond.methodLink RX7 190 yX7_share) ∈ wsL_law := mr_34 _ (List.mem_of_getElem? (i := 2) rfl)
theorem u_34_3 : (Cond.instanceMethod yX7_share) ∈ wsL_law := mr_34 _ (List.mem_of_getElem? (i := 3) rfl)
theorem u_34_4 : (Cond.selects RX7 yX7_share yX7_share) ∈ wsL_law := mr_34 _ (List.mem_of_getElem? (i := 4) rfl)
theorem u_34_5 : (Cond.code yX7_share cX7_share 2 (some .double)) ∈ wsL_law := mr_34 _ (List.mem_of_getElem? (i := 5) rfl)
theorem u_34_6 : (Cond.methodLink RL 161 yX6_digest) ∈ wsL_law := mr_34 _ (List.mem_of_getElem? (i := 6) rfl)
theorem u_34_7 : (Cond.instanceMethod yX6_digest) ∈ wsL_law := mr_34 _ (List.mem_of_getElem? (i := 7) rfl)
theorem u_34_8 : (Cond.selects RX6 yX6_digest yX6_digest) ∈ wsL_law := mr_34 _ (List.mem_of_getElem? (i := 8) rfl)
theorem u_34_9 : (Cond.code yX6_digest cX6_digest 5 (some .long)) ∈ wsL_law := mr_34 _ (List.mem_of_getElem? (i := 9) rfl)
theorem u_34_10 : (Cond.constantLong RX6 201 (3467)) ∈ wsL_law := mr_34 _ (List.mem_of_getElem? (i := 10) rfl)
theorem u_34_11 : (Cond.fieldLink RX6 211 "CanyonBall$Canyon" "echoCount" "I") ∈ wsL_law := mr_34 _ (List.mem_of_getElem? (i := 11) rfl)
theorem u_34_12 : (Cond.methodLink RX6 203 yX6_mixed) ∈ wsL_law := mr_34 _ (List.mem_of_getElem? (i := 12) rfl)
theorem u_34_13 : (Cond.static yX6_mixed) ∈ wsL_law := mr_34 _ (List.mem_of_getElem? (i := 13) rfl)
theorem u_34_14 : (Cond.code yX6_mixed cX6_mixed 4 (some .long)) ∈ wsL_law := mr_34 _ (List.mem_of_getElem? (i := 14) rfl)
theorem u_34_15 : (Cond.constantLong RX6 257 (31)) ∈ wsL_law := mr_34 _ (List.mem_of_getElem? (i := 15) rfl)
theorem u_34_16 : (Cond.methodLink RX6 207 yX6_mixedWithPlayer) ∈ wsL_law := mr_34 _ (List.mem_of_getElem? (i := 16) rfl)
theorem u_34_17 : (Cond.instanceMethod yX6_mixedWithPlayer) ∈ wsL_law := mr_34 _ (List.mem_of_getElem? (i := 17) rfl)
theorem u_34_18 : (Cond.selects RX6 yX6_mixedWithPlayer yX6_mixedWithPlayer) ∈ wsL_law := mr_34 _ (List.mem_of_getElem? (i := 18) rfl)
theorem u_34_19 : (Cond.code yX6_mixedWithPlayer cX6_mixedWithPlayer 7 (some .long)) ∈ wsL_law := mr_34 _ (List.mem_of_getElem? (i := 19) rfl)
theorem u_34_20 : (Cond.methodLink RX6 214 yX6_mixedWithBall) ∈ wsL_law := mr_34 _ (List.mem_of_getElem? (i := 20) rfl)
theorem u_34_21 : (Cond.instanceMethod yX6_mixedWithBall) ∈ wsL_law := mr_34 _ (List.mem_of_getElem? (i := 21) rfl)
theorem u_34_22 : (Cond.selects RX6 yX6_mixedWithBall yX6_mixedWithBall) ∈ wsL_law := mr_34 _ (List.mem_of_getElem? (i := 22) rfl)
theorem u_34_23 : (Cond.code yX6_mixedWithBall cX6_mixedWithBall 7 (some .long)) ∈ wsL_law := mr_34 _ (List.mem_of_getElem? (i := 23) rfl)
theorem u_35_0 : (Cond.methodLink RX6 217 yX6_bitsOf) ∈ wsL_law := mr_35 _ (List.mem_of_getElem? (i := 0) rfl)
theorem u_35_1 : (Cond.static yX6_bitsOf) ∈ wsL_law := mr_35 _ (List.mem_of_getElem? (i := 1) rfl)
theorem u_35_2 : (Cond.code yX6_bitsOf cX6_bitsOf 7 (some .long)) ∈ wsL_law := mr_35 _ (List.mem_of_getElem? (i := 2) rfl)
theorem u_35_3 : (Cond.constantDouble RX6 259 (4611686018427387904)) ∈ wsL_law := mr_35 _ (List.mem_of_getElem? (i := 3) rfl)
theorem u_35_4 : (Cond.constantDouble RX6 261 (4841369599423283200)) ∈ wsL_law := mr_35 _ (List.mem_of_getElem? (i := 4) rfl)
theorem u_35_5 : (Cond.methodLink RL 165 yX7_digest) ∈ wsL_law := mr_35 _ (List.mem_of_getElem? (i := 5) rfl)
theorem u_35_6 : (Cond.instanceMethod yX7_digest) ∈ wsL_law := mr_35 _ (List.mem_of_getElem? (i := 6) rfl)
theorem u_35_7 : (Cond.selects RX7 yX7_digest yX7_digest) ∈ wsL_law := mr_35 _ (List.mem_of_getElem? (i := 7) rfl)
theorem u_35_8 : (Cond.code yX7_digest cX7_digest 3 (some .long)) ∈ wsL_law := mr_35 _ (List.mem_of_getElem? (i := 8) rfl)
theorem u_35_9 : (Cond.constantLong RX7 204 (3467)) ∈ wsL_law := mr_35 _ (List.mem_of_getElem? (i := 9) rfl)
theorem u_35_10 : (Cond.fieldLink RX7 196 "CanyonBallModel" "hash" "J") ∈ wsL_law := mr_35 _ (List.mem_of_getElem? (i := 10) rfl)
theorem u_35_11 : (Cond.methodLink RX7 200 yX7_mix) ∈ wsL_law := mr_35 _ (List.mem_of_getElem? (i := 11) rfl)
theorem u_35_12 : (Cond.instanceMethod yX7_mix) ∈ wsL_law := mr_35 _ (List.mem_of_getElem? (i := 12) rfl)
theorem u_35_13 : (Cond.selects RX7 yX7_mix yX7_mix) ∈ wsL_law := mr_35 _ (List.mem_of_getElem? (i := 13) rfl)
theorem u_35_14 : (Cond.code yX7_mix cX7_mix 3 none) ∈ wsL_law := mr_35 _ (List.mem_of_getElem? (i := 14) rfl)
theorem u_35_15 : (Cond.constantLong RX7 194 (31)) ∈ wsL_law := mr_35 _ (List.mem_of_getElem? (i := 15) rfl)
theorem u_35_16 : (Cond.methodLink RX7 206 yX7_mixPlayer) ∈ wsL_law := mr_35 _ (List.mem_of_getElem? (i := 16) rfl)
theorem u_35_17 : (Cond.instanceMethod yX7_mixPlayer) ∈ wsL_law := mr_35 _ (List.mem_of_getElem? (i := 17) rfl)
theorem u_35_18 : (Cond.selects RX7 yX7_mixPlayer yX7_mixPlayer) ∈ wsL_law := mr_35 _ (List.mem_of_getElem? (i := 18) rfl)
theorem u_35_19 : (Cond.code yX7_mixPlayer cX7_mixPlayer 3 none) ∈ wsL_law := mr_35 _ (List.mem_of_getElem? (i := 19) rfl)
theorem u_35_20 : (Cond.methodLink RX7 209 yJxe99ae_doubleToLongBits_ccdee) ∈ wsL_law := mr_35 _ (List.mem_of_getElem? (i := 20) rfl)
theorem u_35_21 : (Cond.static yJxe99ae_doubleToLongBits_ccdee) ∈ wsL_law := mr_35 _ (List.mem_of_getElem? (i := 21) rfl)
theorem u_35_22 : (Cond.initialized RJxe99ae) ∈ wsL_law := mr_35 _ (List.mem_of_getElem? (i := 22) rfl)
theorem u_35_23 : (Cond.code yJxe99ae_doubleToLongBits_ccdee cJxe99ae_doubleToLongBits_ccdee 2 (some .long)) ∈ wsL_law := mr_35 _ (List.mem_of_getElem? (i := 23) rfl)
theorem u_36_0 : (Cond.methodLink RJxe99ae 134 ⟨"java/lang/Double", "doubleToRawLongBits", "(D)J"⟩) ∈ wsL_law := mr_36 _ (List.mem_of_getElem? (i := 0) rfl)
theorem u_36_1 : (Cond.native ⟨"java/lang/Double", "doubleToRawLongBits", "(D)J"⟩) ∈ wsL_law := mr_36 _ (List.mem_of_getElem? (i := 1) rfl)
theorem u_36_2 : (Cond.static ⟨"java/lang/Double", "doubleToRawLongBits", "(D)J"⟩) ∈ wsL_law := mr_36 _ (List.mem_of_getElem? (i := 2) rfl)
theorem u_36_3 : (Cond.initialized "java/lang/Double") ∈ wsL_law := mr_36 _ (List.mem_of_getElem? (i := 3) rfl)
theorem u_36_4 : (Cond.constantLong RJxe99ae 137 (9221120237041090560)) ∈ wsL_law := mr_36 _ (List.mem_of_getElem? (i := 4) rfl)
theorem u_36_5 : (Cond.methodLink RJxe99ae 122 yJxe99ae_isNaN_b9ae7) ∈ wsL_law := mr_36 _ (List.mem_of_getElem? (i := 5) rfl)
theorem u_36_6 : (Cond.static yJxe99ae_isNaN_b9ae7) ∈ wsL_law := mr_36 _ (List.mem_of_getElem? (i := 6) rfl)
theorem u_36_7 : (Cond.code yJxe99ae_isNaN_b9ae7 cJxe99ae_isNaN_b9ae7 2 (some .boolean)) ∈ wsL_law := mr_36 _ (List.mem_of_getElem? (i := 7) rfl)
theorem gU : ∀ w ∈ wsL_law, (w.onTables && w.keeps) = true ∨ ∃ ty, w = .arrayClass ty := fun w h => good_of_word (List.all_eq_true.mp (show wsL_law.all goodWord = true by decide +kernel) w h)
end
section
theorem zz_probe : True := trivial
end
