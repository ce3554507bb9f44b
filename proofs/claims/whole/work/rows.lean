section
-- ===== PART A: goes FIRST, ahead of the names: the tables' words, and 'selects' of the private methods out of them =====
/-- a private method of a class that the tables say can be made, by its rows of tables_1 -/
def lw_okq (q : MethodName × Nat) : Prop := (q.1.cls ≠ "java/lang/invoke/MethodHandle" ∧ q.1.cls ≠ "java/lang/invoke/VarHandle") ∧ Cond.instantiable q.1.cls q.2 ∈ tables_1 ∧ Cond.privateMethod q.1 ∈ tables_1 ∧ Cond.instanceMethod q.1 ∈ tables_1
theorem lw_p0 : lw_okq (⟨"LineBalls$Parser", "nextToken", "()V"⟩, 7) := ⟨⟨by decide +kernel, by decide +kernel⟩, List.mem_of_getElem? (i := 273) (by decide +kernel), List.mem_of_getElem? (i := 367) (by decide +kernel), List.mem_of_getElem? (i := 368) (by decide +kernel)⟩
theorem lw_p1 : lw_okq (⟨"LineBalls$Parser", "kindAt", "(I)I"⟩, 7) := ⟨⟨by decide +kernel, by decide +kernel⟩, List.mem_of_getElem? (i := 273) (by decide +kernel), List.mem_of_getElem? (i := 371) (by decide +kernel), List.mem_of_getElem? (i := 372) (by decide +kernel)⟩
theorem lw_p2 : lw_okq (⟨"LineBalls$Parser", "parseBox", "()V"⟩, 7) := ⟨⟨by decide +kernel, by decide +kernel⟩, List.mem_of_getElem? (i := 273) (by decide +kernel), List.mem_of_getElem? (i := 375) (by decide +kernel), List.mem_of_getElem? (i := 376) (by decide +kernel)⟩
theorem lw_p3 : lw_okq (⟨"LineBalls$Parser", "takeWord", "(Ljava/lang/String;)V"⟩, 7) := ⟨⟨by decide +kernel, by decide +kernel⟩, List.mem_of_getElem? (i := 273) (by decide +kernel), List.mem_of_getElem? (i := 380) (by decide +kernel), List.mem_of_getElem? (i := 381) (by decide +kernel)⟩
theorem lw_p4 : lw_okq (⟨"LineBalls$Parser", "isWord", "(Ljava/lang/String;)Z"⟩, 7) := ⟨⟨by decide +kernel, by decide +kernel⟩, List.mem_of_getElem? (i := 273) (by decide +kernel), List.mem_of_getElem? (i := 384) (by decide +kernel), List.mem_of_getElem? (i := 385) (by decide +kernel)⟩
theorem lw_p5 : lw_okq (⟨"LineBalls$Parser", "fail", "(I)V"⟩, 7) := ⟨⟨by decide +kernel, by decide +kernel⟩, List.mem_of_getElem? (i := 273) (by decide +kernel), List.mem_of_getElem? (i := 436) (by decide +kernel), List.mem_of_getElem? (i := 437) (by decide +kernel)⟩
theorem lw_p6 : lw_okq (⟨"LineBalls$Parser", "takeNumber", "(II)I"⟩, 7) := ⟨⟨by decide +kernel, by decide +kernel⟩, List.mem_of_getElem? (i := 273) (by decide +kernel), List.mem_of_getElem? (i := 440) (by decide +kernel), List.mem_of_getElem? (i := 441) (by decide +kernel)⟩
theorem lw_p7 : lw_okq (⟨"LineBalls$Parser", "checkedNumber", "(II)I"⟩, 7) := ⟨⟨by decide +kernel, by decide +kernel⟩, List.mem_of_getElem? (i := 273) (by decide +kernel), List.mem_of_getElem? (i := 444) (by decide +kernel), List.mem_of_getElem? (i := 445) (by decide +kernel)⟩
theorem lw_p8 : lw_okq (⟨"LineBalls$Parser", "takeSemicolon", "()V"⟩, 7) := ⟨⟨by decide +kernel, by decide +kernel⟩, List.mem_of_getElem? (i := 273) (by decide +kernel), List.mem_of_getElem? (i := 450) (by decide +kernel), List.mem_of_getElem? (i := 451) (by decide +kernel)⟩
theorem lw_p9 : lw_okq (⟨"LineBalls$Parser", "isSymbol", "(C)Z"⟩, 7) := ⟨⟨by decide +kernel, by decide +kernel⟩, List.mem_of_getElem? (i := 273) (by decide +kernel), List.mem_of_getElem? (i := 454) (by decide +kernel), List.mem_of_getElem? (i := 455) (by decide +kernel)⟩
theorem lw_p10 : lw_okq (⟨"LineBalls$Parser", "parsePost", "()V"⟩, 7) := ⟨⟨by decide +kernel, by decide +kernel⟩, List.mem_of_getElem? (i := 273) (by decide +kernel), List.mem_of_getElem? (i := 460) (by decide +kernel), List.mem_of_getElem? (i := 461) (by decide +kernel)⟩
theorem lw_p11 : lw_okq (⟨"LineBalls$Parser", "takeCell", "()I"⟩, 7) := ⟨⟨by decide +kernel, by decide +kernel⟩, List.mem_of_getElem? (i := 273) (by decide +kernel), List.mem_of_getElem? (i := 464) (by decide +kernel), List.mem_of_getElem? (i := 465) (by decide +kernel)⟩
theorem lw_p12 : lw_okq (⟨"LineBalls$Parser", "parseBall", "()V"⟩, 7) := ⟨⟨by decide +kernel, by decide +kernel⟩, List.mem_of_getElem? (i := 273) (by decide +kernel), List.mem_of_getElem? (i := 485) (by decide +kernel), List.mem_of_getElem? (i := 486) (by decide +kernel)⟩
theorem lw_p13 : lw_okq (⟨"LineBalls$Parser", "takeName", "()I"⟩, 7) := ⟨⟨by decide +kernel, by decide +kernel⟩, List.mem_of_getElem? (i := 273) (by decide +kernel), List.mem_of_getElem? (i := 489) (by decide +kernel), List.mem_of_getElem? (i := 490) (by decide +kernel)⟩
theorem lw_p14 : lw_okq (⟨"LineBalls$Parser", "isKeyword", "()Z"⟩, 7) := ⟨⟨by decide +kernel, by decide +kernel⟩, List.mem_of_getElem? (i := 273) (by decide +kernel), List.mem_of_getElem? (i := 496) (by decide +kernel), List.mem_of_getElem? (i := 497) (by decide +kernel)⟩
theorem lw_p15 : lw_okq (⟨"LineBalls$Parser", "takeSpeed", "()I"⟩, 7) := ⟨⟨by decide +kernel, by decide +kernel⟩, List.mem_of_getElem? (i := 273) (by decide +kernel), List.mem_of_getElem? (i := 507) (by decide +kernel), List.mem_of_getElem? (i := 508) (by decide +kernel)⟩
def lw_privs_1 : List (MethodName × Nat) := [(⟨"LineBalls$Parser", "nextToken", "()V"⟩, 7), (⟨"LineBalls$Parser", "kindAt", "(I)I"⟩, 7), (⟨"LineBalls$Parser", "parseBox", "()V"⟩, 7), (⟨"LineBalls$Parser", "takeWord", "(Ljava/lang/String;)V"⟩, 7), (⟨"LineBalls$Parser", "isWord", "(Ljava/lang/String;)Z"⟩, 7), (⟨"LineBalls$Parser", "fail", "(I)V"⟩, 7), (⟨"LineBalls$Parser", "takeNumber", "(II)I"⟩, 7), (⟨"LineBalls$Parser", "checkedNumber", "(II)I"⟩, 7), (⟨"LineBalls$Parser", "takeSemicolon", "()V"⟩, 7), (⟨"LineBalls$Parser", "isSymbol", "(C)Z"⟩, 7), (⟨"LineBalls$Parser", "parsePost", "()V"⟩, 7), (⟨"LineBalls$Parser", "takeCell", "()I"⟩, 7), (⟨"LineBalls$Parser", "parseBall", "()V"⟩, 7), (⟨"LineBalls$Parser", "takeName", "()I"⟩, 7), (⟨"LineBalls$Parser", "isKeyword", "()Z"⟩, 7), (⟨"LineBalls$Parser", "takeSpeed", "()I"⟩, 7)]
theorem lw_r1 : ∀ q ∈ lw_privs_1, lw_okq q := List.forall_mem_cons.mpr ⟨lw_p0, List.forall_mem_cons.mpr ⟨lw_p1, List.forall_mem_cons.mpr ⟨lw_p2, List.forall_mem_cons.mpr ⟨lw_p3, List.forall_mem_cons.mpr ⟨lw_p4, List.forall_mem_cons.mpr ⟨lw_p5, List.forall_mem_cons.mpr ⟨lw_p6, List.forall_mem_cons.mpr ⟨lw_p7, List.forall_mem_cons.mpr ⟨lw_p8, List.forall_mem_cons.mpr ⟨lw_p9, List.forall_mem_cons.mpr ⟨lw_p10, List.forall_mem_cons.mpr ⟨lw_p11, List.forall_mem_cons.mpr ⟨lw_p12, List.forall_mem_cons.mpr ⟨lw_p13, List.forall_mem_cons.mpr ⟨lw_p14, List.forall_mem_cons.mpr ⟨lw_p15, fun _ h => absurd h List.not_mem_nil⟩⟩⟩⟩⟩⟩⟩⟩⟩⟩⟩⟩⟩⟩⟩⟩
theorem lw_p16 : lw_okq (⟨"LineBalls", "tryUntilHit", "()I"⟩, 11) := ⟨⟨by decide +kernel, by decide +kernel⟩, List.mem_of_getElem? (i := 25) (by decide +kernel), List.mem_of_getElem? (i := 586) (by decide +kernel), List.mem_of_getElem? (i := 587) (by decide +kernel)⟩
theorem lw_p17 : lw_okq (⟨"LineBalls$Line", "beginPulse", "()Z"⟩, 11) := ⟨⟨by decide +kernel, by decide +kernel⟩, List.mem_of_getElem? (i := 49) (by decide +kernel), List.mem_of_getElem? (i := 594) (by decide +kernel), List.mem_of_getElem? (i := 595) (by decide +kernel)⟩
theorem lw_p18 : lw_okq (⟨"LineBalls$Line", "takeTurn", "(II)V"⟩, 11) := ⟨⟨by decide +kernel, by decide +kernel⟩, List.mem_of_getElem? (i := 49) (by decide +kernel), List.mem_of_getElem? (i := 603) (by decide +kernel), List.mem_of_getElem? (i := 604) (by decide +kernel)⟩
theorem lw_p19 : lw_okq (⟨"LineBalls$Line", "bounce", "(ILLineBalls$Barrier;)V"⟩, 11) := ⟨⟨by decide +kernel, by decide +kernel⟩, List.mem_of_getElem? (i := 49) (by decide +kernel), List.mem_of_getElem? (i := 607) (by decide +kernel), List.mem_of_getElem? (i := 608) (by decide +kernel)⟩
theorem lw_p20 : lw_okq (⟨"LineBalls$Line", "meet", "(III)V"⟩, 11) := ⟨⟨by decide +kernel, by decide +kernel⟩, List.mem_of_getElem? (i := 49) (by decide +kernel), List.mem_of_getElem? (i := 625) (by decide +kernel), List.mem_of_getElem? (i := 626) (by decide +kernel)⟩
theorem lw_p21 : lw_okq (⟨"LineBalls$Log", "slotOf", "(I)I"⟩, 6) := ⟨⟨by decide +kernel, by decide +kernel⟩, List.mem_of_getElem? (i := 81) (by decide +kernel), List.mem_of_getElem? (i := 655) (by decide +kernel), List.mem_of_getElem? (i := 656) (by decide +kernel)⟩
theorem lw_p22 : lw_okq (⟨"LineBalls", "putLogged", "(I)V"⟩, 11) := ⟨⟨by decide +kernel, by decide +kernel⟩, List.mem_of_getElem? (i := 25) (by decide +kernel), List.mem_of_getElem? (i := 737) (by decide +kernel), List.mem_of_getElem? (i := 738) (by decide +kernel)⟩
theorem lw_p23 : lw_okq (⟨"java/lang/Throwable", "fillInStackTrace", "(I)Ljava/lang/Throwable;"⟩, 6) := ⟨⟨by decide +kernel, by decide +kernel⟩, List.mem_of_getElem? (i := 792) (by decide +kernel), List.mem_of_getElem? (i := 790) (by decide +kernel), List.mem_of_getElem? (i := 791) (by decide +kernel)⟩
theorem lw_p24 : lw_okq (⟨"LineBalls", "appendBytes", "(I)V"⟩, 11) := ⟨⟨by decide +kernel, by decide +kernel⟩, List.mem_of_getElem? (i := 25) (by decide +kernel), List.mem_of_getElem? (i := 817) (by decide +kernel), List.mem_of_getElem? (i := 818) (by decide +kernel)⟩
theorem lw_p25 : lw_okq (⟨"LineBalls", "needBall", "(I)LLineBalls$Ball;"⟩, 11) := ⟨⟨by decide +kernel, by decide +kernel⟩, List.mem_of_getElem? (i := 25) (by decide +kernel), List.mem_of_getElem? (i := 862) (by decide +kernel), List.mem_of_getElem? (i := 863) (by decide +kernel)⟩
theorem lw_p26 : lw_okq (⟨"LineBalls", "needCell", "(I)V"⟩, 11) := ⟨⟨by decide +kernel, by decide +kernel⟩, List.mem_of_getElem? (i := 25) (by decide +kernel), List.mem_of_getElem? (i := 888) (by decide +kernel), List.mem_of_getElem? (i := 889) (by decide +kernel)⟩
theorem lw_p27 : lw_okq (⟨"LineBalls", "needBarrier", "(I)LLineBalls$Barrier;"⟩, 11) := ⟨⟨by decide +kernel, by decide +kernel⟩, List.mem_of_getElem? (i := 25) (by decide +kernel), List.mem_of_getElem? (i := 899) (by decide +kernel), List.mem_of_getElem? (i := 900) (by decide +kernel)⟩
theorem lw_p28 : lw_okq (⟨"LineBalls", "tryTicks", "(I)V"⟩, 11) := ⟨⟨by decide +kernel, by decide +kernel⟩, List.mem_of_getElem? (i := 25) (by decide +kernel), List.mem_of_getElem? (i := 1038) (by decide +kernel), List.mem_of_getElem? (i := 1039) (by decide +kernel)⟩
theorem lw_p29 : lw_okq (⟨"LineBalls$Book", "pairBehind", "(II)I"⟩, 8) := ⟨⟨by decide +kernel, by decide +kernel⟩, List.mem_of_getElem? (i := 107) (by decide +kernel), List.mem_of_getElem? (i := 1151) (by decide +kernel), List.mem_of_getElem? (i := 1152) (by decide +kernel)⟩
theorem lw_p30 : lw_okq (⟨"LineBallsModel", "passes", "(Z)Z"⟩, 27) := ⟨⟨by decide +kernel, by decide +kernel⟩, List.mem_of_getElem? (i := 1210) (by decide +kernel), List.mem_of_getElem? (i := 1304) (by decide +kernel), List.mem_of_getElem? (i := 1305) (by decide +kernel)⟩
theorem lw_p31 : lw_okq (⟨"LineBallsModel", "passes3", "(ZZZ)Z"⟩, 27) := ⟨⟨by decide +kernel, by decide +kernel⟩, List.mem_of_getElem? (i := 1210) (by decide +kernel), List.mem_of_getElem? (i := 1308) (by decide +kernel), List.mem_of_getElem? (i := 1309) (by decide +kernel)⟩
def lw_privs_2 : List (MethodName × Nat) := [(⟨"LineBalls", "tryUntilHit", "()I"⟩, 11), (⟨"LineBalls$Line", "beginPulse", "()Z"⟩, 11), (⟨"LineBalls$Line", "takeTurn", "(II)V"⟩, 11), (⟨"LineBalls$Line", "bounce", "(ILLineBalls$Barrier;)V"⟩, 11), (⟨"LineBalls$Line", "meet", "(III)V"⟩, 11), (⟨"LineBalls$Log", "slotOf", "(I)I"⟩, 6), (⟨"LineBalls", "putLogged", "(I)V"⟩, 11), (⟨"java/lang/Throwable", "fillInStackTrace", "(I)Ljava/lang/Throwable;"⟩, 6), (⟨"LineBalls", "appendBytes", "(I)V"⟩, 11), (⟨"LineBalls", "needBall", "(I)LLineBalls$Ball;"⟩, 11), (⟨"LineBalls", "needCell", "(I)V"⟩, 11), (⟨"LineBalls", "needBarrier", "(I)LLineBalls$Barrier;"⟩, 11), (⟨"LineBalls", "tryTicks", "(I)V"⟩, 11), (⟨"LineBalls$Book", "pairBehind", "(II)I"⟩, 8), (⟨"LineBallsModel", "passes", "(Z)Z"⟩, 27), (⟨"LineBallsModel", "passes3", "(ZZZ)Z"⟩, 27)]
theorem lw_r2 : ∀ q ∈ lw_privs_2, lw_okq q := List.forall_mem_cons.mpr ⟨lw_p16, List.forall_mem_cons.mpr ⟨lw_p17, List.forall_mem_cons.mpr ⟨lw_p18, List.forall_mem_cons.mpr ⟨lw_p19, List.forall_mem_cons.mpr ⟨lw_p20, List.forall_mem_cons.mpr ⟨lw_p21, List.forall_mem_cons.mpr ⟨lw_p22, List.forall_mem_cons.mpr ⟨lw_p23, List.forall_mem_cons.mpr ⟨lw_p24, List.forall_mem_cons.mpr ⟨lw_p25, List.forall_mem_cons.mpr ⟨lw_p26, List.forall_mem_cons.mpr ⟨lw_p27, List.forall_mem_cons.mpr ⟨lw_p28, List.forall_mem_cons.mpr ⟨lw_p29, List.forall_mem_cons.mpr ⟨lw_p30, List.forall_mem_cons.mpr ⟨lw_p31, fun _ h => absurd h List.not_mem_nil⟩⟩⟩⟩⟩⟩⟩⟩⟩⟩⟩⟩⟩⟩⟩⟩
theorem lw_p32 : lw_okq (⟨"LineBallsModel", "appendFour", "(I)V"⟩, 27) := ⟨⟨by decide +kernel, by decide +kernel⟩, List.mem_of_getElem? (i := 1210) (by decide +kernel), List.mem_of_getElem? (i := 1312) (by decide +kernel), List.mem_of_getElem? (i := 1313) (by decide +kernel)⟩
theorem lw_p33 : lw_okq (⟨"LineBallsModel", "scan", "()V"⟩, 27) := ⟨⟨by decide +kernel, by decide +kernel⟩, List.mem_of_getElem? (i := 1210) (by decide +kernel), List.mem_of_getElem? (i := 1327) (by decide +kernel), List.mem_of_getElem? (i := 1328) (by decide +kernel)⟩
theorem lw_p34 : lw_okq (⟨"LineBallsModel", "byteAt", "(I)I"⟩, 27) := ⟨⟨by decide +kernel, by decide +kernel⟩, List.mem_of_getElem? (i := 1210) (by decide +kernel), List.mem_of_getElem? (i := 1331) (by decide +kernel), List.mem_of_getElem? (i := 1332) (by decide +kernel)⟩
theorem lw_p35 : lw_okq (⟨"LineBallsModel", "parseBox", "()V"⟩, 27) := ⟨⟨by decide +kernel, by decide +kernel⟩, List.mem_of_getElem? (i := 1210) (by decide +kernel), List.mem_of_getElem? (i := 1340) (by decide +kernel), List.mem_of_getElem? (i := 1341) (by decide +kernel)⟩
theorem lw_p36 : lw_okq (⟨"LineBallsModel", "takeWord", "(Ljava/lang/String;)V"⟩, 27) := ⟨⟨by decide +kernel, by decide +kernel⟩, List.mem_of_getElem? (i := 1210) (by decide +kernel), List.mem_of_getElem? (i := 1345) (by decide +kernel), List.mem_of_getElem? (i := 1346) (by decide +kernel)⟩
theorem lw_p37 : lw_okq (⟨"LineBallsModel", "isWord", "(Ljava/lang/String;)Z"⟩, 27) := ⟨⟨by decide +kernel, by decide +kernel⟩, List.mem_of_getElem? (i := 1210) (by decide +kernel), List.mem_of_getElem? (i := 1349) (by decide +kernel), List.mem_of_getElem? (i := 1350) (by decide +kernel)⟩
theorem lw_p38 : lw_okq (⟨"LineBallsModel", "good", "()Z"⟩, 27) := ⟨⟨by decide +kernel, by decide +kernel⟩, List.mem_of_getElem? (i := 1210) (by decide +kernel), List.mem_of_getElem? (i := 1353) (by decide +kernel), List.mem_of_getElem? (i := 1354) (by decide +kernel)⟩
theorem lw_p39 : lw_okq (⟨"LineBallsModel", "errs", "(I)V"⟩, 27) := ⟨⟨by decide +kernel, by decide +kernel⟩, List.mem_of_getElem? (i := 1210) (by decide +kernel), List.mem_of_getElem? (i := 1359) (by decide +kernel), List.mem_of_getElem? (i := 1360) (by decide +kernel)⟩
theorem lw_p40 : lw_okq (⟨"LineBallsModel", "goOn", "()V"⟩, 27) := ⟨⟨by decide +kernel, by decide +kernel⟩, List.mem_of_getElem? (i := 1210) (by decide +kernel), List.mem_of_getElem? (i := 1363) (by decide +kernel), List.mem_of_getElem? (i := 1364) (by decide +kernel)⟩
theorem lw_p41 : lw_okq (⟨"LineBallsModel", "number", "(II)I"⟩, 27) := ⟨⟨by decide +kernel, by decide +kernel⟩, List.mem_of_getElem? (i := 1210) (by decide +kernel), List.mem_of_getElem? (i := 1367) (by decide +kernel), List.mem_of_getElem? (i := 1368) (by decide +kernel)⟩
theorem lw_p42 : lw_okq (⟨"LineBallsModel", "numberHere", "(II)I"⟩, 27) := ⟨⟨by decide +kernel, by decide +kernel⟩, List.mem_of_getElem? (i := 1210) (by decide +kernel), List.mem_of_getElem? (i := 1371) (by decide +kernel), List.mem_of_getElem? (i := 1372) (by decide +kernel)⟩
theorem lw_p43 : lw_okq (⟨"LineBallsModel", "semicolon", "()V"⟩, 27) := ⟨⟨by decide +kernel, by decide +kernel⟩, List.mem_of_getElem? (i := 1210) (by decide +kernel), List.mem_of_getElem? (i := 1376) (by decide +kernel), List.mem_of_getElem? (i := 1377) (by decide +kernel)⟩
theorem lw_p44 : lw_okq (⟨"LineBallsModel", "parseStatement", "()V"⟩, 27) := ⟨⟨by decide +kernel, by decide +kernel⟩, List.mem_of_getElem? (i := 1210) (by decide +kernel), List.mem_of_getElem? (i := 1380) (by decide +kernel), List.mem_of_getElem? (i := 1381) (by decide +kernel)⟩
theorem lw_p45 : lw_okq (⟨"LineBallsModel", "parsePost", "()V"⟩, 27) := ⟨⟨by decide +kernel, by decide +kernel⟩, List.mem_of_getElem? (i := 1210) (by decide +kernel), List.mem_of_getElem? (i := 1385) (by decide +kernel), List.mem_of_getElem? (i := 1386) (by decide +kernel)⟩
theorem lw_p46 : lw_okq (⟨"LineBallsModel", "posts", "()I"⟩, 27) := ⟨⟨by decide +kernel, by decide +kernel⟩, List.mem_of_getElem? (i := 1210) (by decide +kernel), List.mem_of_getElem? (i := 1389) (by decide +kernel), List.mem_of_getElem? (i := 1390) (by decide +kernel)⟩
theorem lw_p47 : lw_okq (⟨"LineBallsModel", "errsIf", "(ZI)V"⟩, 27) := ⟨⟨by decide +kernel, by decide +kernel⟩, List.mem_of_getElem? (i := 1210) (by decide +kernel), List.mem_of_getElem? (i := 1393) (by decide +kernel), List.mem_of_getElem? (i := 1394) (by decide +kernel)⟩
def lw_privs_3 : List (MethodName × Nat) := [(⟨"LineBallsModel", "appendFour", "(I)V"⟩, 27), (⟨"LineBallsModel", "scan", "()V"⟩, 27), (⟨"LineBallsModel", "byteAt", "(I)I"⟩, 27), (⟨"LineBallsModel", "parseBox", "()V"⟩, 27), (⟨"LineBallsModel", "takeWord", "(Ljava/lang/String;)V"⟩, 27), (⟨"LineBallsModel", "isWord", "(Ljava/lang/String;)Z"⟩, 27), (⟨"LineBallsModel", "good", "()Z"⟩, 27), (⟨"LineBallsModel", "errs", "(I)V"⟩, 27), (⟨"LineBallsModel", "goOn", "()V"⟩, 27), (⟨"LineBallsModel", "number", "(II)I"⟩, 27), (⟨"LineBallsModel", "numberHere", "(II)I"⟩, 27), (⟨"LineBallsModel", "semicolon", "()V"⟩, 27), (⟨"LineBallsModel", "parseStatement", "()V"⟩, 27), (⟨"LineBallsModel", "parsePost", "()V"⟩, 27), (⟨"LineBallsModel", "posts", "()I"⟩, 27), (⟨"LineBallsModel", "errsIf", "(ZI)V"⟩, 27)]
theorem lw_r3 : ∀ q ∈ lw_privs_3, lw_okq q := List.forall_mem_cons.mpr ⟨lw_p32, List.forall_mem_cons.mpr ⟨lw_p33, List.forall_mem_cons.mpr ⟨lw_p34, List.forall_mem_cons.mpr ⟨lw_p35, List.forall_mem_cons.mpr ⟨lw_p36, List.forall_mem_cons.mpr ⟨lw_p37, List.forall_mem_cons.mpr ⟨lw_p38, List.forall_mem_cons.mpr ⟨lw_p39, List.forall_mem_cons.mpr ⟨lw_p40, List.forall_mem_cons.mpr ⟨lw_p41, List.forall_mem_cons.mpr ⟨lw_p42, List.forall_mem_cons.mpr ⟨lw_p43, List.forall_mem_cons.mpr ⟨lw_p44, List.forall_mem_cons.mpr ⟨lw_p45, List.forall_mem_cons.mpr ⟨lw_p46, List.forall_mem_cons.mpr ⟨lw_p47, fun _ h => absurd h List.not_mem_nil⟩⟩⟩⟩⟩⟩⟩⟩⟩⟩⟩⟩⟩⟩⟩⟩
theorem lw_p48 : lw_okq (⟨"LineBallsModel", "takeCell", "()I"⟩, 27) := ⟨⟨by decide +kernel, by decide +kernel⟩, List.mem_of_getElem? (i := 1210) (by decide +kernel), List.mem_of_getElem? (i := 1397) (by decide +kernel), List.mem_of_getElem? (i := 1398) (by decide +kernel)⟩
theorem lw_p49 : lw_okq (⟨"LineBallsModel", "cells", "()I"⟩, 27) := ⟨⟨by decide +kernel, by decide +kernel⟩, List.mem_of_getElem? (i := 1210) (by decide +kernel), List.mem_of_getElem? (i := 1401) (by decide +kernel), List.mem_of_getElem? (i := 1402) (by decide +kernel)⟩
theorem lw_p50 : lw_okq (⟨"LineBallsModel", "isFree", "(I)Z"⟩, 27) := ⟨⟨by decide +kernel, by decide +kernel⟩, List.mem_of_getElem? (i := 1210) (by decide +kernel), List.mem_of_getElem? (i := 1405) (by decide +kernel), List.mem_of_getElem? (i := 1406) (by decide +kernel)⟩
theorem lw_p51 : lw_okq (⟨"LineBallsModel", "isCell", "(I)Z"⟩, 27) := ⟨⟨by decide +kernel, by decide +kernel⟩, List.mem_of_getElem? (i := 1210) (by decide +kernel), List.mem_of_getElem? (i := 1409) (by decide +kernel), List.mem_of_getElem? (i := 1410) (by decide +kernel)⟩
theorem lw_p52 : lw_okq (⟨"LineBallsModel", "ballAt", "(I)I"⟩, 27) := ⟨⟨by decide +kernel, by decide +kernel⟩, List.mem_of_getElem? (i := 1210) (by decide +kernel), List.mem_of_getElem? (i := 1413) (by decide +kernel), List.mem_of_getElem? (i := 1414) (by decide +kernel)⟩
theorem lw_p53 : lw_okq (⟨"LineBallsModel", "balls", "()I"⟩, 27) := ⟨⟨by decide +kernel, by decide +kernel⟩, List.mem_of_getElem? (i := 1210) (by decide +kernel), List.mem_of_getElem? (i := 1417) (by decide +kernel), List.mem_of_getElem? (i := 1418) (by decide +kernel)⟩
theorem lw_p54 : lw_okq (⟨"LineBallsModel", "of", "(II)I"⟩, 27) := ⟨⟨by decide +kernel, by decide +kernel⟩, List.mem_of_getElem? (i := 1210) (by decide +kernel), List.mem_of_getElem? (i := 1421) (by decide +kernel), List.mem_of_getElem? (i := 1422) (by decide +kernel)⟩
theorem lw_p55 : lw_okq (⟨"LineBallsModel", "postAt", "(I)I"⟩, 27) := ⟨⟨by decide +kernel, by decide +kernel⟩, List.mem_of_getElem? (i := 1210) (by decide +kernel), List.mem_of_getElem? (i := 1425) (by decide +kernel), List.mem_of_getElem? (i := 1426) (by decide +kernel)⟩
theorem lw_p56 : lw_okq (⟨"LineBallsModel", "ofPost", "(II)I"⟩, 27) := ⟨⟨by decide +kernel, by decide +kernel⟩, List.mem_of_getElem? (i := 1210) (by decide +kernel), List.mem_of_getElem? (i := 1429) (by decide +kernel), List.mem_of_getElem? (i := 1430) (by decide +kernel)⟩
theorem lw_p57 : lw_okq (⟨"LineBallsModel", "numberAfter", "(Ljava/lang/String;II)I"⟩, 27) := ⟨⟨by decide +kernel, by decide +kernel⟩, List.mem_of_getElem? (i := 1210) (by decide +kernel), List.mem_of_getElem? (i := 1433) (by decide +kernel), List.mem_of_getElem? (i := 1434) (by decide +kernel)⟩
theorem lw_p58 : lw_okq (⟨"LineBallsModel", "parseBall", "()V"⟩, 27) := ⟨⟨by decide +kernel, by decide +kernel⟩, List.mem_of_getElem? (i := 1210) (by decide +kernel), List.mem_of_getElem? (i := 1438) (by decide +kernel), List.mem_of_getElem? (i := 1439) (by decide +kernel)⟩
theorem lw_p59 : lw_okq (⟨"LineBallsModel", "isKeyword", "()Z"⟩, 27) := ⟨⟨by decide +kernel, by decide +kernel⟩, List.mem_of_getElem? (i := 1210) (by decide +kernel), List.mem_of_getElem? (i := 1442) (by decide +kernel), List.mem_of_getElem? (i := 1443) (by decide +kernel)⟩
theorem lw_p60 : lw_okq (⟨"LineBallsModel", "ballNamed", "(I)I"⟩, 27) := ⟨⟨by decide +kernel, by decide +kernel⟩, List.mem_of_getElem? (i := 1210) (by decide +kernel), List.mem_of_getElem? (i := 1452) (by decide +kernel), List.mem_of_getElem? (i := 1453) (by decide +kernel)⟩
theorem lw_p61 : lw_okq (⟨"LineBallsModel", "takeSpeed", "()I"⟩, 27) := ⟨⟨by decide +kernel, by decide +kernel⟩, List.mem_of_getElem? (i := 1210) (by decide +kernel), List.mem_of_getElem? (i := 1456) (by decide +kernel), List.mem_of_getElem? (i := 1457) (by decide +kernel)⟩
theorem lw_p62 : lw_okq (⟨"LineBallsModel", "addOne", "(IIII)I"⟩, 27) := ⟨⟨by decide +kernel, by decide +kernel⟩, List.mem_of_getElem? (i := 1210) (by decide +kernel), List.mem_of_getElem? (i := 1460) (by decide +kernel), List.mem_of_getElem? (i := 1461) (by decide +kernel)⟩
theorem lw_p63 : lw_okq (⟨"LineBallsModel", "put", "(IIJ)V"⟩, 27) := ⟨⟨by decide +kernel, by decide +kernel⟩, List.mem_of_getElem? (i := 1210) (by decide +kernel), List.mem_of_getElem? (i := 1464) (by decide +kernel), List.mem_of_getElem? (i := 1465) (by decide +kernel)⟩
def lw_privs_4 : List (MethodName × Nat) := [(⟨"LineBallsModel", "takeCell", "()I"⟩, 27), (⟨"LineBallsModel", "cells", "()I"⟩, 27), (⟨"LineBallsModel", "isFree", "(I)Z"⟩, 27), (⟨"LineBallsModel", "isCell", "(I)Z"⟩, 27), (⟨"LineBallsModel", "ballAt", "(I)I"⟩, 27), (⟨"LineBallsModel", "balls", "()I"⟩, 27), (⟨"LineBallsModel", "of", "(II)I"⟩, 27), (⟨"LineBallsModel", "postAt", "(I)I"⟩, 27), (⟨"LineBallsModel", "ofPost", "(II)I"⟩, 27), (⟨"LineBallsModel", "numberAfter", "(Ljava/lang/String;II)I"⟩, 27), (⟨"LineBallsModel", "parseBall", "()V"⟩, 27), (⟨"LineBallsModel", "isKeyword", "()Z"⟩, 27), (⟨"LineBallsModel", "ballNamed", "(I)I"⟩, 27), (⟨"LineBallsModel", "takeSpeed", "()I"⟩, 27), (⟨"LineBallsModel", "addOne", "(IIII)I"⟩, 27), (⟨"LineBallsModel", "put", "(IIJ)V"⟩, 27)]
theorem lw_r4 : ∀ q ∈ lw_privs_4, lw_okq q := List.forall_mem_cons.mpr ⟨lw_p48, List.forall_mem_cons.mpr ⟨lw_p49, List.forall_mem_cons.mpr ⟨lw_p50, List.forall_mem_cons.mpr ⟨lw_p51, List.forall_mem_cons.mpr ⟨lw_p52, List.forall_mem_cons.mpr ⟨lw_p53, List.forall_mem_cons.mpr ⟨lw_p54, List.forall_mem_cons.mpr ⟨lw_p55, List.forall_mem_cons.mpr ⟨lw_p56, List.forall_mem_cons.mpr ⟨lw_p57, List.forall_mem_cons.mpr ⟨lw_p58, List.forall_mem_cons.mpr ⟨lw_p59, List.forall_mem_cons.mpr ⟨lw_p60, List.forall_mem_cons.mpr ⟨lw_p61, List.forall_mem_cons.mpr ⟨lw_p62, List.forall_mem_cons.mpr ⟨lw_p63, fun _ h => absurd h List.not_mem_nil⟩⟩⟩⟩⟩⟩⟩⟩⟩⟩⟩⟩⟩⟩⟩⟩
theorem lw_p64 : lw_okq (⟨"LineBallsModel", "remember", "()V"⟩, 27) := ⟨⟨by decide +kernel, by decide +kernel⟩, List.mem_of_getElem? (i := 1210) (by decide +kernel), List.mem_of_getElem? (i := 1468) (by decide +kernel), List.mem_of_getElem? (i := 1469) (by decide +kernel)⟩
theorem lw_p65 : lw_okq (⟨"LineBallsModel", "stills", "()I"⟩, 27) := ⟨⟨by decide +kernel, by decide +kernel⟩, List.mem_of_getElem? (i := 1210) (by decide +kernel), List.mem_of_getElem? (i := 1489) (by decide +kernel), List.mem_of_getElem? (i := 1490) (by decide +kernel)⟩
theorem lw_p66 : lw_okq (⟨"LineBallsModel", "speedOf", "(I)I"⟩, 27) := ⟨⟨by decide +kernel, by decide +kernel⟩, List.mem_of_getElem? (i := 1210) (by decide +kernel), List.mem_of_getElem? (i := 1493) (by decide +kernel), List.mem_of_getElem? (i := 1494) (by decide +kernel)⟩
theorem lw_p67 : lw_okq (⟨"LineBallsModel", "weights", "()I"⟩, 27) := ⟨⟨by decide +kernel, by decide +kernel⟩, List.mem_of_getElem? (i := 1210) (by decide +kernel), List.mem_of_getElem? (i := 1497) (by decide +kernel), List.mem_of_getElem? (i := 1498) (by decide +kernel)⟩
theorem lw_p68 : lw_okq (⟨"LineBallsModel", "isBall", "(I)Z"⟩, 27) := ⟨⟨by decide +kernel, by decide +kernel⟩, List.mem_of_getElem? (i := 1210) (by decide +kernel), List.mem_of_getElem? (i := 1505) (by decide +kernel), List.mem_of_getElem? (i := 1506) (by decide +kernel)⟩
theorem lw_p69 : lw_okq (⟨"LineBallsModel", "passes2", "(ZZ)Z"⟩, 27) := ⟨⟨by decide +kernel, by decide +kernel⟩, List.mem_of_getElem? (i := 1210) (by decide +kernel), List.mem_of_getElem? (i := 1510) (by decide +kernel), List.mem_of_getElem? (i := 1511) (by decide +kernel)⟩
theorem lw_p70 : lw_okq (⟨"LineBallsModel", "placedAt", "(I)I"⟩, 27) := ⟨⟨by decide +kernel, by decide +kernel⟩, List.mem_of_getElem? (i := 1210) (by decide +kernel), List.mem_of_getElem? (i := 1531) (by decide +kernel), List.mem_of_getElem? (i := 1532) (by decide +kernel)⟩
theorem lw_p71 : lw_okq (⟨"LineBallsModel", "firstOf", "(IZ)I"⟩, 27) := ⟨⟨by decide +kernel, by decide +kernel⟩, List.mem_of_getElem? (i := 1210) (by decide +kernel), List.mem_of_getElem? (i := 1535) (by decide +kernel), List.mem_of_getElem? (i := 1536) (by decide +kernel)⟩
theorem lw_p72 : lw_okq (⟨"LineBallsModel", "roomOf", "(IZ)I"⟩, 27) := ⟨⟨by decide +kernel, by decide +kernel⟩, List.mem_of_getElem? (i := 1210) (by decide +kernel), List.mem_of_getElem? (i := 1549) (by decide +kernel), List.mem_of_getElem? (i := 1550) (by decide +kernel)⟩
theorem lw_p73 : lw_okq (⟨"LineBallsModel", "logMany", "()I"⟩, 27) := ⟨⟨by decide +kernel, by decide +kernel⟩, List.mem_of_getElem? (i := 1210) (by decide +kernel), List.mem_of_getElem? (i := 1565) (by decide +kernel), List.mem_of_getElem? (i := 1566) (by decide +kernel)⟩
theorem lw_p74 : lw_okq (⟨"LineBallsModel", "ofLog", "(II)I"⟩, 27) := ⟨⟨by decide +kernel, by decide +kernel⟩, List.mem_of_getElem? (i := 1210) (by decide +kernel), List.mem_of_getElem? (i := 1570) (by decide +kernel), List.mem_of_getElem? (i := 1571) (by decide +kernel)⟩
theorem lw_p75 : lw_okq (⟨"LineBallsModel", "pushNow", "()J"⟩, 27) := ⟨⟨by decide +kernel, by decide +kernel⟩, List.mem_of_getElem? (i := 1210) (by decide +kernel), List.mem_of_getElem? (i := 1580) (by decide +kernel), List.mem_of_getElem? (i := 1581) (by decide +kernel)⟩
theorem lw_p76 : lw_okq (⟨"LineBallsModel", "energyNow", "()J"⟩, 27) := ⟨⟨by decide +kernel, by decide +kernel⟩, List.mem_of_getElem? (i := 1210) (by decide +kernel), List.mem_of_getElem? (i := 1584) (by decide +kernel), List.mem_of_getElem? (i := 1585) (by decide +kernel)⟩
theorem lw_p77 : lw_okq (⟨"LineBallsModel", "energyOf", "(I)I"⟩, 27) := ⟨⟨by decide +kernel, by decide +kernel⟩, List.mem_of_getElem? (i := 1210) (by decide +kernel), List.mem_of_getElem? (i := 1588) (by decide +kernel), List.mem_of_getElem? (i := 1589) (by decide +kernel)⟩
theorem lw_p78 : lw_okq (⟨"LineBallsModel", "fast", "(I)I"⟩, 27) := ⟨⟨by decide +kernel, by decide +kernel⟩, List.mem_of_getElem? (i := 1210) (by decide +kernel), List.mem_of_getElem? (i := 1600) (by decide +kernel), List.mem_of_getElem? (i := 1601) (by decide +kernel)⟩
theorem lw_p79 : lw_okq (⟨"LineBallsModel", "trades", "(II)I"⟩, 27) := ⟨⟨by decide +kernel, by decide +kernel⟩, List.mem_of_getElem? (i := 1210) (by decide +kernel), List.mem_of_getElem? (i := 1615) (by decide +kernel), List.mem_of_getElem? (i := 1616) (by decide +kernel)⟩
def lw_privs_5 : List (MethodName × Nat) := [(⟨"LineBallsModel", "remember", "()V"⟩, 27), (⟨"LineBallsModel", "stills", "()I"⟩, 27), (⟨"LineBallsModel", "speedOf", "(I)I"⟩, 27), (⟨"LineBallsModel", "weights", "()I"⟩, 27), (⟨"LineBallsModel", "isBall", "(I)Z"⟩, 27), (⟨"LineBallsModel", "passes2", "(ZZ)Z"⟩, 27), (⟨"LineBallsModel", "placedAt", "(I)I"⟩, 27), (⟨"LineBallsModel", "firstOf", "(IZ)I"⟩, 27), (⟨"LineBallsModel", "roomOf", "(IZ)I"⟩, 27), (⟨"LineBallsModel", "logMany", "()I"⟩, 27), (⟨"LineBallsModel", "ofLog", "(II)I"⟩, 27), (⟨"LineBallsModel", "pushNow", "()J"⟩, 27), (⟨"LineBallsModel", "energyNow", "()J"⟩, 27), (⟨"LineBallsModel", "energyOf", "(I)I"⟩, 27), (⟨"LineBallsModel", "fast", "(I)I"⟩, 27), (⟨"LineBallsModel", "trades", "(II)I"⟩, 27)]
theorem lw_r5 : ∀ q ∈ lw_privs_5, lw_okq q := List.forall_mem_cons.mpr ⟨lw_p64, List.forall_mem_cons.mpr ⟨lw_p65, List.forall_mem_cons.mpr ⟨lw_p66, List.forall_mem_cons.mpr ⟨lw_p67, List.forall_mem_cons.mpr ⟨lw_p68, List.forall_mem_cons.mpr ⟨lw_p69, List.forall_mem_cons.mpr ⟨lw_p70, List.forall_mem_cons.mpr ⟨lw_p71, List.forall_mem_cons.mpr ⟨lw_p72, List.forall_mem_cons.mpr ⟨lw_p73, List.forall_mem_cons.mpr ⟨lw_p74, List.forall_mem_cons.mpr ⟨lw_p75, List.forall_mem_cons.mpr ⟨lw_p76, List.forall_mem_cons.mpr ⟨lw_p77, List.forall_mem_cons.mpr ⟨lw_p78, List.forall_mem_cons.mpr ⟨lw_p79, fun _ h => absurd h List.not_mem_nil⟩⟩⟩⟩⟩⟩⟩⟩⟩⟩⟩⟩⟩⟩⟩⟩
theorem lw_p80 : lw_okq (⟨"LineBallsModel", "nextHitOf", "(I)I"⟩, 27) := ⟨⟨by decide +kernel, by decide +kernel⟩, List.mem_of_getElem? (i := 1210) (by decide +kernel), List.mem_of_getElem? (i := 1646) (by decide +kernel), List.mem_of_getElem? (i := 1647) (by decide +kernel)⟩
theorem lw_p81 : lw_okq (⟨"LineBallsModel", "keepAside", "()V"⟩, 27) := ⟨⟨by decide +kernel, by decide +kernel⟩, List.mem_of_getElem? (i := 1210) (by decide +kernel), List.mem_of_getElem? (i := 1650) (by decide +kernel), List.mem_of_getElem? (i := 1651) (by decide +kernel)⟩
theorem lw_p82 : lw_okq (⟨"LineBallsModel", "pulseOnce", "()V"⟩, 27) := ⟨⟨by decide +kernel, by decide +kernel⟩, List.mem_of_getElem? (i := 1210) (by decide +kernel), List.mem_of_getElem? (i := 1654) (by decide +kernel), List.mem_of_getElem? (i := 1655) (by decide +kernel)⟩
theorem lw_p83 : lw_okq (⟨"LineBallsModel", "save", "()V"⟩, 27) := ⟨⟨by decide +kernel, by decide +kernel⟩, List.mem_of_getElem? (i := 1210) (by decide +kernel), List.mem_of_getElem? (i := 1658) (by decide +kernel), List.mem_of_getElem? (i := 1659) (by decide +kernel)⟩
theorem lw_p84 : lw_okq (⟨"LineBallsModel", "takeTurns", "(IZ)V"⟩, 27) := ⟨⟨by decide +kernel, by decide +kernel⟩, List.mem_of_getElem? (i := 1210) (by decide +kernel), List.mem_of_getElem? (i := 1662) (by decide +kernel), List.mem_of_getElem? (i := 1663) (by decide +kernel)⟩
theorem lw_p85 : lw_okq (⟨"LineBallsModel", "takeTurn", "(IZ)V"⟩, 27) := ⟨⟨by decide +kernel, by decide +kernel⟩, List.mem_of_getElem? (i := 1210) (by decide +kernel), List.mem_of_getElem? (i := 1666) (by decide +kernel), List.mem_of_getElem? (i := 1667) (by decide +kernel)⟩
theorem lw_p86 : lw_okq (⟨"LineBallsModel", "add", "(II)V"⟩, 27) := ⟨⟨by decide +kernel, by decide +kernel⟩, List.mem_of_getElem? (i := 1210) (by decide +kernel), List.mem_of_getElem? (i := 1670) (by decide +kernel), List.mem_of_getElem? (i := 1671) (by decide +kernel)⟩
theorem lw_p87 : lw_okq (⟨"LineBallsModel", "tells", "(I)V"⟩, 27) := ⟨⟨by decide +kernel, by decide +kernel⟩, List.mem_of_getElem? (i := 1210) (by decide +kernel), List.mem_of_getElem? (i := 1674) (by decide +kernel), List.mem_of_getElem? (i := 1675) (by decide +kernel)⟩
theorem lw_p88 : lw_okq (⟨"LineBallsModel", "hit", "(IIZ)V"⟩, 27) := ⟨⟨by decide +kernel, by decide +kernel⟩, List.mem_of_getElem? (i := 1210) (by decide +kernel), List.mem_of_getElem? (i := 1678) (by decide +kernel), List.mem_of_getElem? (i := 1679) (by decide +kernel)⟩
theorem lw_p89 : lw_okq (⟨"LineBallsModel", "countHit", "(II)V"⟩, 27) := ⟨⟨by decide +kernel, by decide +kernel⟩, List.mem_of_getElem? (i := 1210) (by decide +kernel), List.mem_of_getElem? (i := 1682) (by decide +kernel), List.mem_of_getElem? (i := 1683) (by decide +kernel)⟩
theorem lw_p90 : lw_okq (⟨"LineBallsModel", "log", "(III)V"⟩, 27) := ⟨⟨by decide +kernel, by decide +kernel⟩, List.mem_of_getElem? (i := 1210) (by decide +kernel), List.mem_of_getElem? (i := 1686) (by decide +kernel), List.mem_of_getElem? (i := 1687) (by decide +kernel)⟩
theorem lw_p91 : lw_okq (⟨"LineBallsModel", "bounceAt", "(II)V"⟩, 27) := ⟨⟨by decide +kernel, by decide +kernel⟩, List.mem_of_getElem? (i := 1210) (by decide +kernel), List.mem_of_getElem? (i := 1694) (by decide +kernel), List.mem_of_getElem? (i := 1695) (by decide +kernel)⟩
theorem lw_p92 : lw_okq (⟨"LineBallsModel", "bounce", "(II)V"⟩, 27) := ⟨⟨by decide +kernel, by decide +kernel⟩, List.mem_of_getElem? (i := 1210) (by decide +kernel), List.mem_of_getElem? (i := 1698) (by decide +kernel), List.mem_of_getElem? (i := 1699) (by decide +kernel)⟩
theorem lw_p93 : lw_okq (⟨"LineBallsModel", "layBackInt", "(I)I"⟩, 27) := ⟨⟨by decide +kernel, by decide +kernel⟩, List.mem_of_getElem? (i := 1210) (by decide +kernel), List.mem_of_getElem? (i := 1702) (by decide +kernel), List.mem_of_getElem? (i := 1703) (by decide +kernel)⟩
theorem lw_p94 : lw_okq (⟨"LineBallsModel", "layBack", "(J)J"⟩, 27) := ⟨⟨by decide +kernel, by decide +kernel⟩, List.mem_of_getElem? (i := 1210) (by decide +kernel), List.mem_of_getElem? (i := 1706) (by decide +kernel), List.mem_of_getElem? (i := 1707) (by decide +kernel)⟩
theorem lw_p95 : lw_okq (⟨"LineBallsModel", "later", "(III)I"⟩, 27) := ⟨⟨by decide +kernel, by decide +kernel⟩, List.mem_of_getElem? (i := 1210) (by decide +kernel), List.mem_of_getElem? (i := 1726) (by decide +kernel), List.mem_of_getElem? (i := 1727) (by decide +kernel)⟩
def lw_privs_6 : List (MethodName × Nat) := [(⟨"LineBallsModel", "nextHitOf", "(I)I"⟩, 27), (⟨"LineBallsModel", "keepAside", "()V"⟩, 27), (⟨"LineBallsModel", "pulseOnce", "()V"⟩, 27), (⟨"LineBallsModel", "save", "()V"⟩, 27), (⟨"LineBallsModel", "takeTurns", "(IZ)V"⟩, 27), (⟨"LineBallsModel", "takeTurn", "(IZ)V"⟩, 27), (⟨"LineBallsModel", "add", "(II)V"⟩, 27), (⟨"LineBallsModel", "tells", "(I)V"⟩, 27), (⟨"LineBallsModel", "hit", "(IIZ)V"⟩, 27), (⟨"LineBallsModel", "countHit", "(II)V"⟩, 27), (⟨"LineBallsModel", "log", "(III)V"⟩, 27), (⟨"LineBallsModel", "bounceAt", "(II)V"⟩, 27), (⟨"LineBallsModel", "bounce", "(II)V"⟩, 27), (⟨"LineBallsModel", "layBackInt", "(I)I"⟩, 27), (⟨"LineBallsModel", "layBack", "(J)J"⟩, 27), (⟨"LineBallsModel", "later", "(III)I"⟩, 27)]
theorem lw_r6 : ∀ q ∈ lw_privs_6, lw_okq q := List.forall_mem_cons.mpr ⟨lw_p80, List.forall_mem_cons.mpr ⟨lw_p81, List.forall_mem_cons.mpr ⟨lw_p82, List.forall_mem_cons.mpr ⟨lw_p83, List.forall_mem_cons.mpr ⟨lw_p84, List.forall_mem_cons.mpr ⟨lw_p85, List.forall_mem_cons.mpr ⟨lw_p86, List.forall_mem_cons.mpr ⟨lw_p87, List.forall_mem_cons.mpr ⟨lw_p88, List.forall_mem_cons.mpr ⟨lw_p89, List.forall_mem_cons.mpr ⟨lw_p90, List.forall_mem_cons.mpr ⟨lw_p91, List.forall_mem_cons.mpr ⟨lw_p92, List.forall_mem_cons.mpr ⟨lw_p93, List.forall_mem_cons.mpr ⟨lw_p94, List.forall_mem_cons.mpr ⟨lw_p95, fun _ h => absurd h List.not_mem_nil⟩⟩⟩⟩⟩⟩⟩⟩⟩⟩⟩⟩⟩⟩⟩⟩
theorem lw_p96 : lw_okq (⟨"LineBallsModel", "pulses", "(I)I"⟩, 27) := ⟨⟨by decide +kernel, by decide +kernel⟩, List.mem_of_getElem? (i := 1210) (by decide +kernel), List.mem_of_getElem? (i := 1730) (by decide +kernel), List.mem_of_getElem? (i := 1731) (by decide +kernel)⟩
theorem lw_p97 : lw_okq (⟨"LineBallsModel", "growsIn", "(II)I"⟩, 27) := ⟨⟨by decide +kernel, by decide +kernel⟩, List.mem_of_getElem? (i := 1210) (by decide +kernel), List.mem_of_getElem? (i := 1742) (by decide +kernel), List.mem_of_getElem? (i := 1743) (by decide +kernel)⟩
theorem lw_p98 : lw_okq (⟨"LineBallsModel", "becomes", "(III)I"⟩, 27) := ⟨⟨by decide +kernel, by decide +kernel⟩, List.mem_of_getElem? (i := 1210) (by decide +kernel), List.mem_of_getElem? (i := 1788) (by decide +kernel), List.mem_of_getElem? (i := 1789) (by decide +kernel)⟩
theorem lw_p99 : lw_okq (⟨"LineBallsModel", "pushed", "(J)V"⟩, 27) := ⟨⟨by decide +kernel, by decide +kernel⟩, List.mem_of_getElem? (i := 1210) (by decide +kernel), List.mem_of_getElem? (i := 1792) (by decide +kernel), List.mem_of_getElem? (i := 1793) (by decide +kernel)⟩
theorem lw_p100 : lw_okq (⟨"LineBallsModel", "dropHits", "(I)V"⟩, 27) := ⟨⟨by decide +kernel, by decide +kernel⟩, List.mem_of_getElem? (i := 1210) (by decide +kernel), List.mem_of_getElem? (i := 1814) (by decide +kernel), List.mem_of_getElem? (i := 1815) (by decide +kernel)⟩
theorem lw_p101 : lw_okq (⟨"LineBallsModel", "write", "(I)V"⟩, 27) := ⟨⟨by decide +kernel, by decide +kernel⟩, List.mem_of_getElem? (i := 1210) (by decide +kernel), List.mem_of_getElem? (i := 1856) (by decide +kernel), List.mem_of_getElem? (i := 1857) (by decide +kernel)⟩
theorem lw_p102 : lw_okq (⟨"LineBallsModel", "space", "()V"⟩, 27) := ⟨⟨by decide +kernel, by decide +kernel⟩, List.mem_of_getElem? (i := 1210) (by decide +kernel), List.mem_of_getElem? (i := 1864) (by decide +kernel), List.mem_of_getElem? (i := 1865) (by decide +kernel)⟩
theorem lw_p103 : lw_okq (⟨"LineBallsModel", "writeInt", "(I)V"⟩, 27) := ⟨⟨by decide +kernel, by decide +kernel⟩, List.mem_of_getElem? (i := 1210) (by decide +kernel), List.mem_of_getElem? (i := 1868) (by decide +kernel), List.mem_of_getElem? (i := 1869) (by decide +kernel)⟩
theorem lw_p104 : lw_okq (⟨"LineBallsModel", "writeBall", "(I)V"⟩, 27) := ⟨⟨by decide +kernel, by decide +kernel⟩, List.mem_of_getElem? (i := 1210) (by decide +kernel), List.mem_of_getElem? (i := 1876) (by decide +kernel), List.mem_of_getElem? (i := 1877) (by decide +kernel)⟩
def lw_privs_7 : List (MethodName × Nat) := [(⟨"LineBallsModel", "pulses", "(I)I"⟩, 27), (⟨"LineBallsModel", "growsIn", "(II)I"⟩, 27), (⟨"LineBallsModel", "becomes", "(III)I"⟩, 27), (⟨"LineBallsModel", "pushed", "(J)V"⟩, 27), (⟨"LineBallsModel", "dropHits", "(I)V"⟩, 27), (⟨"LineBallsModel", "write", "(I)V"⟩, 27), (⟨"LineBallsModel", "space", "()V"⟩, 27), (⟨"LineBallsModel", "writeInt", "(I)V"⟩, 27), (⟨"LineBallsModel", "writeBall", "(I)V"⟩, 27)]
theorem lw_r7 : ∀ q ∈ lw_privs_7, lw_okq q := List.forall_mem_cons.mpr ⟨lw_p96, List.forall_mem_cons.mpr ⟨lw_p97, List.forall_mem_cons.mpr ⟨lw_p98, List.forall_mem_cons.mpr ⟨lw_p99, List.forall_mem_cons.mpr ⟨lw_p100, List.forall_mem_cons.mpr ⟨lw_p101, List.forall_mem_cons.mpr ⟨lw_p102, List.forall_mem_cons.mpr ⟨lw_p103, List.forall_mem_cons.mpr ⟨lw_p104, fun _ h => absurd h List.not_mem_nil⟩⟩⟩⟩⟩⟩⟩⟩⟩
def lw_privs : List (MethodName × Nat) := lw_privs_1 ++ (lw_privs_2 ++ (lw_privs_3 ++ (lw_privs_4 ++ (lw_privs_5 ++ (lw_privs_6 ++ (lw_privs_7))))))
def lw_tbl : List Cond := k2_sels lw_privs ++ tables_1
theorem lw_privs_ok : ∀ q ∈ lw_privs, lw_okq q := by
  show ∀ q ∈ lw_privs_1 ++ (lw_privs_2 ++ (lw_privs_3 ++ (lw_privs_4 ++ (lw_privs_5 ++ (lw_privs_6 ++ (lw_privs_7)))))), lw_okq q
  exact List.forall_mem_append.mpr ⟨lw_r1, List.forall_mem_append.mpr ⟨lw_r2, List.forall_mem_append.mpr ⟨lw_r3, List.forall_mem_append.mpr ⟨lw_r4, List.forall_mem_append.mpr ⟨lw_r5, List.forall_mem_append.mpr ⟨lw_r6, lw_r7⟩⟩⟩⟩⟩⟩
/-- the streams that the claim lets the run draw from -/
abbrev lw_cs : List Choice := [Jvm.Choice.named "NaN.bits"]
theorem lw_bits : nanBits ∈ lw_cs := by first | decide | exact List.mem_cons_self | simp [lw_cs, nanBits]
end
section
/-! ===== BEGIN words of one list among another's, by their places ===== -/
theorem goodIn_r {big : List Cond} (ws : List Cond) (ps : List Nat) (hp : ws = ps.filterMap (fun i => big[i]?)) (h : ws.all goodWord = true) : GoodIn big ws := by
  intro w hw
  have h1 := List.all_eq_true.mp h w hw
  rw [hp] at hw
  obtain ⟨i, -, hi⟩ := List.mem_filterMap.mp hw
  have hm : w ∈ big := by first | exact List.mem_of_getElem? hi | exact List.getElem?_mem hi
  exact ⟨hm, good_of_word h1⟩
theorem goodIn_app {big a b : List Cond} (ha : GoodIn big a) (hb : GoodIn big b) : GoodIn big (a ++ b) := fun w h => (List.mem_append.mp h).elim (ha w) (hb w)
theorem goodIn_ca {big a b : List Cond} {c : Cond} (ha : GoodIn big (c :: a)) (hb : GoodIn big b) : GoodIn big (c :: (a ++ b)) := fun w h => (List.mem_cons.mp h).elim (fun e => ha w (List.mem_cons.mpr (Or.inl e))) (fun h => (List.mem_append.mp h).elim (fun h => ha w (List.mem_cons.mpr (Or.inr h))) (hb w))
theorem goodIn_sub {big ws : List Cond} (hm : ∀ w ∈ ws, w ∈ big) (h : ws.all goodWord = true) : GoodIn big ws := fun w hw => ⟨hm w hw, good_of_word (List.all_eq_true.mp h w hw)⟩
/-! ===== END ===== -/
/-! ===== BEGIN exceptions that leave a method, and their catching by the caller (launches without stack traces) ===== -/
section VXA
/-! The laws vx_back, vx_callV, vx_callS, vx_callSW, vx_throw0, vx_throwS follow proofs of the library, with one case more: JvmDerived/Free/Laws.lean (Back.of_free), Shelf42/LK1.lean (callV, callS), Shelf/KitTraced.lean (throwNew0V, throwNewS). -/
/-- where a method has thrown q: the class by its name, the cell, what was written, the world -/
def vx_T (XC : String → State → State → Prop) (st : State) (q : Addr) (t : State) (mc ms : Nat) (free : Addr → Prop) : Prop :=
  ∃ (E : String) (ce : Cell) (L : List Loc), XC E st t ∧ t.heap[q]? = some ce ∧ ce.vm = .none ∧ st.vm.findClass E = some ce.cls ∧ st.WarmedH t.vm ∧ st.sameButNew ({ t with vm := st.vm } : State) L mc ms ∧ ∀ z ∈ L, free z.base
def vx_Q (Qc : Array Value → State → Outcome → State → Prop) (XC : String → State → State → Prop) (mc ms : Nat) (free : Addr → Prop) : Array Value → State → Outcome → State → Prop := fun a st o t =>
  (Qc a st o t ∧ ∃ L, FrameEnd st o t L mc ms ∧ ∀ q ∈ L, free q.base) ∨ ∃ q, o = .threw q ∧ vx_T XC st q t mc ms free
/-- a callee that returns or throws -/
def vx_Met (l : Launch) (y : MethodName) (ws : List Cond) (rm : Room) (Pc : Array Value → State → Prop) (Qc : Array Value → State → Outcome → State → Prop) (XC : String → State → State → Prop) (mc ms : Nat) (free : Addr → Prop) : Prop :=
  MetFree l y (headSpec ws rm) Pc (fun _ _ _ _ _ => True) (vx_Q Qc XC mc ms free)
def vx_Post (XC : String → State → State → Prop) (mc ms : Nat) (free : Addr → Prop) : Pt → Array Value → Addr → Pt → Prop := fun A a q B =>
  ∃ (g : JFrame) (mk : MethodId) (t : State) (L : List Loc) (E : String) (ce : Cell), B.U.heap = t.heap ∧ B.U.vm = t.vm ∧ XC E (A.U.calling g mk a) t ∧ t.heap[q]? = some ce ∧ ce.vm = .none ∧ A.U.vm.findClass E = some ce.cls ∧ B.locs = A.locs ++ L ∧ (∀ z ∈ L, free z.base) ∧ B.cells = A.cells + mc ∧ B.slots = A.slots + ms
def vx_Back (l : Launch) (R : Room) (p : Program) (e : Env) (below : List Frame) (s : State) (sargs : Array Value) (y : MethodName) (len W9 : Nat)
    (Pre : Pt → Array Value → Prop) (Post : Pt → Array Value → Option Value → Pt → Prop) (PostX : Pt → Array Value → Addr → Pt → Prop) : Prop :=
  ∀ (m : MethodId) (meth : Method) (c : Code) (A : Pt) (g : JFrame) (ig : Instr) (mk : MethodId) (a : Array Value),
    Stand p l e R s m sargs below meth c A.U A.locs A.cells A.slots → g.method = m → g.locals.size = c.maxLocals → decode c.code g.pc = .ok (ig, len) →
    2 * g.monitorRoom + (g.stack.map fun v => v.category).sum ≤ W9 → A.U.methodNamed? y = some mk → Pre A a →
    (∃ (v : Option Value) (B : Pt), Stand p l e R s m sargs below meth c B.U B.locs B.cells B.slots ∧ Post A a v B ∧
      Steps p.tables e below (doInvoke e (A.U.setTop g) [] mk a).1 (B.U.setTop { g with pc := g.pc + len, stack := v.toList ++ g.stack })) ∨
    (∃ (q : Addr) (B : Pt), Stand p l e R s m sargs below meth c B.U B.locs B.cells B.slots ∧ PostX A a q B ∧
      Steps p.tables e below (doInvoke e (A.U.setTop g) [] mk a).1 ((B.U.setTop g).pushFrame (.throwing q)))
section Payer
variable {l : Launch} {R : Room} {p : Program} {e : Env} {below : List Frame} {s : State} {sargs : Array Value} {y : MethodName} {len W9 : Nat}
theorem vx_back {ws : List Cond} {rm : Room} {Pc : Array Value → State → Prop} {Qc : Array Value → State → Outcome → State → Prop} {XC : String → State → State → Prop} {mc ms : Nat} {free : Addr → Prop} {bytes : ByteArray} {maxL : Nat} {ret : Option FieldType}
    (hM : vx_Met l y ws rm Pc Qc XC mc ms free) (hblind : FrameBlind Pc) (hrc : rm.cells = mc) (hrs : rm.slots = ms)
    (hframes : rm.frames + 1 ≤ R.frames) (hlocals : W9 + (maxL + 11) + rm.locals ≤ R.locals)
    (hws : ∀ w ∈ ws, ∀ a' U, s.WarmedH U.vm → w.before a' U = true) (hcode : Cond.code y bytes maxL ret ∈ ws) (hinit : ∀ a' U, s.WarmedH U.vm → (Cond.initialized y.cls).before a' U = true) :
    vx_Back l R p e below s sargs y len W9 (PreOf R mc ms Pc) (PostOf Qc mc ms free) (vx_Post XC mc ms free) := by
  intro m meth c A g ig mk a X hg hsize hdg hW hn hp
  have h1 : (headSpec ws rm).pre.before a A.U = true := atoms_intro fun w hw => hws w hw _ _ X.warmed
  have h2 : (Cond.code y bytes maxL ret).before a A.U = true := hws _ hcode _ _ X.warmed
  have h3 : (Cond.initialized y.cls).before a A.U = true := hinit _ _ X.warmed
  have h4 : A.cells + (headSpec ws rm).room.cells ≤ R.cells := by rw [show (headSpec ws rm).room.cells = mc from hrc]; exact hp.1
  have h5 : A.slots + (headSpec ws rm).room.slots ≤ R.slots := by rw [show (headSpec ws rm).room.slots = ms from hrs]; exact hp.2.1
  have hPc : Pc a (A.U.calling g mk a) := hblind _ _ _ _ hp.2.2
  obtain ⟨U, Ls, c0, s0⟩ := A
  dsimp only [Pt.U, Pt.locs, Pt.cells, Pt.slots] at h1 h2 h3 h4 h5 X hn hPc ⊢
  obtain ⟨methY, cY, hmY, hcY, -, hlY, -, -, -, -⟩ := Cond.code_spec hn h2
  obtain ⟨kY, hkY, -⟩ := className_of_methodNamed hn
  have hinitY : kY.init = .initialized := Cond.initialized_spec (findClass_of_methodNamed hn) hkY h3
  have h : At U g.method c below := by rw [hg]; exact X.here
  have hlocals9 : W9 + (maxL + 11) + (headSpec ws rm).room.locals ≤ R.locals := hlocals
  have happ : (headSpec ws rm).appliesLoose y e.platform (U.calling g mk a) = true :=
    Spec.appliesLoose_calling (g := g) h hdg hn hkY hinitY
      (X.room_calling (g := g) (R' := (headSpec ws rm).room) hsize hmY hcY hframes (by rw [hlY]; omega) h4 h5) h1
  obtain ⟨mid, hmid⟩ := h.above
  have hfr : (U.setTop g).frames = (.java g :: mid) ++ below := by rw [State.frames_setTop' g h.top, hmid]; rfl
  obtain ⟨o, s₂, hsteps, -, hend, hq⟩ := Steps.callFree hM p X.admits X.cas X.clock (acts := []) hfr happ hPc trivial
  have hq' : vx_Q Qc XC mc ms free a (U.calling g mk a) o s₂ := hq
  rw [State.frames_setTop' g h.top] at hend
  obtain ⟨g₀, hg0⟩ := Option.isSome_iff_exists.mp h.top
  obtain ⟨r, hr⟩ := State.topJava?_eq_some.mp hg0
  have hr' : (({ U with heap := s₂.heap, slotsUsed := s₂.slotsUsed } : State).setVm s₂.vm).frames = .java g₀ :: r := hr
  rcases hq' with ⟨hqc, L, hfe, hL⟩ | ⟨q, rfl, E, ce, L, hx, hce, hcv, hcl, hW₂, hsm, hL⟩
  · obtain ⟨⟨v, rfl⟩, hW₂, e2, q2, q3, q4, q5, q6⟩ := id hfe
    have e3 : s₂ = ({ (U.calling g mk a).setFrames s₂.frames with heap := s₂.heap, slotsUsed := s₂.slotsUsed } : State).setVm s₂.vm := by
      have : s₂ = ({ s₂ with vm := (U.calling g mk a).vm } : State).setVm s₂.vm := rfl
      rw [e2] at this
      exact this
    obtain ⟨c₂, i₂, len₂, hc₂, hd₂, hf₂⟩ := hend
    have hW' : U.WarmedH s₂.vm := hW₂
    have hcc : c₂ = c := by
      have h1 : s₂.code? g.method = U.code? g.method := by
        rw [State.code?_eq, State.code?_eq, hW'.alike.method?]
      exact Option.some.inj (hc₂.symm.trans (h1.trans h.code))
    subst hcc
    have hlen : len₂ = len := by rw [hdg] at hd₂; cases hd₂; rfl
    subst hlen
    have hs₂ : s₂ = (({ U with heap := s₂.heap, slotsUsed := s₂.slotsUsed } : State).setVm s₂.vm).setTop { g with pc := g.pc + len₂, stack := v.toList ++ g.stack } := by
      refine e3.trans ?_
      rw [hf₂, State.calling_eq h.top, State.setFrames_setFrames, State.setTop_of_frames _ hr', hr]
      rfl
    have hsame : U.sameButNew ({ U with heap := s₂.heap, slotsUsed := s₂.slotsUsed } : State) L mc ms := by
      refine ⟨?_, q2, q3, q4, q5, q6⟩
      obtain ⟨t, ht, -⟩ := State.frames_cons hr
      show ({ U with heap := s₂.heap, slotsUsed := s₂.slotsUsed } : State) = { U.setFrames U.frames with heap := s₂.heap, slotsUsed := s₂.slotsUsed }
      rw [State.setFrames_self ht]
    subst hg
    refine Or.inl ⟨v, ⟨(({ U with heap := s₂.heap, slotsUsed := s₂.slotsUsed } : State).setVm s₂.vm), Ls ++ L, c0 + mc, s0 + ms⟩,
      ⟨X.admits, X.cas, X.clock, X.frames, X.room, X.hears, X.method, X.code, (X.here.setHeapUsed s₂.heap s₂.slotsUsed).setVm hW'.alike, X.tail, State.WarmedH.trans X.warmed hW', X.limits, X.bytes, X.same.trans (hsame.setVm s.vm)⟩,
      ⟨g, mk, s₂, L, rfl, rfl, hqc, rfl, hL, rfl, rfl⟩, ?_⟩
    show Steps p.tables e below _ ((({ U with heap := s₂.heap, slotsUsed := s₂.slotsUsed } : State).setVm s₂.vm).setTop { g with pc := g.pc + len₂, stack := v.toList ++ g.stack })
    rw [← hs₂]
    exact hsteps
  · obtain ⟨e2, q2, q3, q4, q5, q6⟩ := id hsm
    have e3 : s₂ = ({ (U.calling g mk a).setFrames s₂.frames with heap := s₂.heap, slotsUsed := s₂.slotsUsed } : State).setVm s₂.vm := by
      have : s₂ = ({ s₂ with vm := (U.calling g mk a).vm } : State).setVm s₂.vm := rfl
      rw [e2] at this
      exact this
    have hf₂ : s₂.frames = .throwing q :: .java g :: U.frames.tail := hend
    have hW' : U.WarmedH s₂.vm := hW₂
    have hs₂ : s₂ = ((({ U with heap := s₂.heap, slotsUsed := s₂.slotsUsed } : State).setVm s₂.vm).setTop g).pushFrame (.throwing q) := by
      refine e3.trans ?_
      rw [hf₂, State.calling_eq h.top, State.setFrames_setFrames, State.pushFrame, State.frames_setTop _ hr', State.setTop_of_frames _ hr', State.setFrames_setFrames, hr]
      rfl
    have hsame : U.sameButNew ({ U with heap := s₂.heap, slotsUsed := s₂.slotsUsed } : State) L mc ms := by
      refine ⟨?_, q2, q3, q4, q5, q6⟩
      obtain ⟨t, ht, -⟩ := State.frames_cons hr
      show ({ U with heap := s₂.heap, slotsUsed := s₂.slotsUsed } : State) = { U.setFrames U.frames with heap := s₂.heap, slotsUsed := s₂.slotsUsed }
      rw [State.setFrames_self ht]
    subst hg
    refine Or.inr ⟨q, ⟨(({ U with heap := s₂.heap, slotsUsed := s₂.slotsUsed } : State).setVm s₂.vm), Ls ++ L, c0 + mc, s0 + ms⟩,
      ⟨X.admits, X.cas, X.clock, X.frames, X.room, X.hears, X.method, X.code, (X.here.setHeapUsed s₂.heap s₂.slotsUsed).setVm hW'.alike, X.tail, State.WarmedH.trans X.warmed hW', X.limits, X.bytes, X.same.trans (hsame.setVm s.vm)⟩,
      ⟨g, mk, s₂, L, E, ce, rfl, rfl, hx, hce, hcv, hcl, rfl, hL, rfl, rfl⟩, ?_⟩
    show Steps p.tables e below _ (((({ U with heap := s₂.heap, slotsUsed := s₂.slotsUsed } : State).setVm s₂.vm).setTop g).pushFrame (.throwing q))
    rw [← hs₂]
    exact hsteps
end Payer
section Calls
variable {p : Program} {l : Launch} {e : Env} {R : Room} {s : State} {m : MethodId} {args : Array Value} {below : List Frame} {meth : Method} {c : Code} {T : State} {locs : List Loc} {cells slots : Nat}
theorem vx_callV (X : Stand p l e R s m args below meth c T locs cells slots) (hexec : p.tables.exec = Jvm.exec) {own C : String} {index : Nat} {y : MethodName} {bytes : ByteArray} {maxL : Nat} {ret : Option FieldType}
    (hown : s.vm.findClass own = some m.cls) (hlink : (Cond.methodLink own index y).before args s = true) (hinst : (Cond.instanceMethod y).before args s = true) (hsel : (Cond.selects C y y).before args s = true)
    (hcode : (Cond.code y bytes maxL ret).before args s = true) (hy : y.cls ≠ "java/lang/invoke/MethodHandle" ∧ y.cls ≠ "java/lang/invoke/VarHandle")
    {W9 : Nat} {Pre : Pt → Array Value → Prop} {Post : Pt → Array Value → Option Value → Pt → Prop} {PostX : Pt → Array Value → Addr → Pt → Prop} (hK : vx_Back l R p e below s args y 3 W9 Pre Post PostX)
    {b : Addr} {cellB : Cell} (hcell : T.heap[b]? = some cellB) (hobj : cellB.vm.isStatics = false) (hcls : s.vm.findClass C = some cellB.cls)
    {g : JFrame} (hg : g.method = m) (hsize : g.locals.size = c.maxLocals) {argsL rest : List Value} (hlen : ∀ sig, parseMethodDescriptor y.desc = some sig → argsL.length = sig.parameters.length)
    (hstack : g.stack = argsL.reverse ++ .ref b :: rest) (hW : 2 * g.monitorRoom + (rest.map fun v => v.category).sum ≤ W9) (hdg : decode c.code g.pc = .ok (.invokevirtual index, 3))
    (hpre : ∀ vm₁, s.WarmedH vm₁ → Pre ⟨T.setVm vm₁, locs, cells, slots⟩ (Value.ref b :: argsL).toArray) :
    (∃ (v : Option Value) (vm₁ : Vm) (B : Pt), s.WarmedH vm₁ ∧ Stand p l e R s m args below meth c B.U B.locs B.cells B.slots ∧ Post ⟨T.setVm vm₁, locs, cells, slots⟩ (Value.ref b :: argsL).toArray v B ∧
      ∀ target, Steps p.tables e below (B.U.setTop { g with pc := g.pc + 3, stack := v.toList ++ rest }) target → Steps p.tables e below (T.setTop g) target) ∨
    (∃ (q : Addr) (vm₁ : Vm) (B : Pt), s.WarmedH vm₁ ∧ Stand p l e R s m args below meth c B.U B.locs B.cells B.slots ∧ PostX ⟨T.setVm vm₁, locs, cells, slots⟩ (Value.ref b :: argsL).toArray q B ∧
      Steps p.tables e below (T.setTop g) ((B.U.setTop { g with stack := rest }).pushFrame (.throwing q))) := by
  obtain ⟨mk, methM, hnamed, hmethM, hstM, habM⟩ := Cond.instanceMethod_spec hinst
  obtain ⟨methM', cM, hmethM', -, -, -, -, -, -, hsigM⟩ := Cond.code_spec hnamed hcode
  cases hmethM.symm.trans hmethM'
  obtain ⟨c2, r2, m2, q1, q2, q3, q4, kP, hkP, hkPi⟩ := Cond.selects_spec hsel
  cases hcls.symm.trans q1
  cases (State.methodFound?_of_named hnamed hy).symm.trans q2
  cases hnamed.symm.trans q3
  have hselP : selectMethod e.platform s.vm cellB.cls mk = .method mk := by rw [Launch.admits_selectMethod X.admits]; exact q4
  obtain ⟨vm₁, X₁, hstep₁⟩ := X.invokevirtual hexec hown hlink hnamed hmethM hstM hkP hkPi hy (a := b) (cell := cellB) hcell
    (fun z h => by rw [h] at hobj; cases hobj) hselP hmethM habM hkP hkPi (g := g) hg (argsL := argsL) (rest := rest) (hlen _ hsigM) hstack hdg
  rcases hK m meth c ⟨T.setVm vm₁, locs, cells, slots⟩ { g with stack := rest } (.invokevirtual index) mk (Value.ref b :: argsL).toArray X₁ hg hsize hdg hW (X₁.named hnamed) (hpre vm₁ X₁.warmed) with ⟨v, B, X', hpost, hsteps⟩ | ⟨q, B, X', hpost, hsteps⟩
  · exact Or.inl ⟨v, vm₁, B, X₁.warmed, X', hpost, fun target h => hstep₁ _ fun acts => by rw [doInvoke_state]; exact hsteps.trans h⟩
  · exact Or.inr ⟨q, vm₁, B, X₁.warmed, X', hpost, hstep₁ _ fun acts => by rw [doInvoke_state]; exact hsteps⟩
theorem vx_callS (X : Stand p l e R s m args below meth c T locs cells slots) (hexec : p.tables.exec = Jvm.exec) {own : String} {index : Nat} {y : MethodName} {bytes : ByteArray} {maxL : Nat} {ret : Option FieldType}
    (hown : s.vm.findClass own = some m.cls) (hlink : (Cond.methodLink own index y).before args s = true) (hstat : (Cond.static y).before args s = true) (hinit : (Cond.initialized y.cls).before args s = true)
    (hcode : (Cond.code y bytes maxL ret).before args s = true) (hy : y.cls ≠ "java/lang/invoke/MethodHandle" ∧ y.cls ≠ "java/lang/invoke/VarHandle")
    {W9 : Nat} {Pre : Pt → Array Value → Prop} {Post : Pt → Array Value → Option Value → Pt → Prop} {PostX : Pt → Array Value → Addr → Pt → Prop} (hK : vx_Back l R p e below s args y 3 W9 Pre Post PostX)
    {g : JFrame} (hg : g.method = m) (hsize : g.locals.size = c.maxLocals) {argsL rest : List Value} (hlen : ∀ sig, parseMethodDescriptor y.desc = some sig → argsL.length = sig.parameters.length)
    (hstack : g.stack = argsL.reverse ++ rest) (hW : 2 * g.monitorRoom + (rest.map fun v => v.category).sum ≤ W9) (hdg : decode c.code g.pc = .ok (.invokestatic index, 3))
    (hpre : ∀ vm₁, s.WarmedH vm₁ → Pre ⟨T.setVm vm₁, locs, cells, slots⟩ argsL.toArray) :
    (∃ (v : Option Value) (vm₁ : Vm) (B : Pt), s.WarmedH vm₁ ∧ Stand p l e R s m args below meth c B.U B.locs B.cells B.slots ∧ Post ⟨T.setVm vm₁, locs, cells, slots⟩ argsL.toArray v B ∧
      ∀ target, Steps p.tables e below (B.U.setTop { g with pc := g.pc + 3, stack := v.toList ++ rest }) target → Steps p.tables e below (T.setTop g) target) ∨
    (∃ (q : Addr) (vm₁ : Vm) (B : Pt), s.WarmedH vm₁ ∧ Stand p l e R s m args below meth c B.U B.locs B.cells B.slots ∧ PostX ⟨T.setVm vm₁, locs, cells, slots⟩ argsL.toArray q B ∧
      Steps p.tables e below (T.setTop g) ((B.U.setTop { g with stack := rest }).pushFrame (.throwing q))) := by
  obtain ⟨mk, hnamed⟩ := Cond.code_named hcode
  obtain ⟨methM, cM, hmethM, -, -, -, -, -, -, hsigM⟩ := Cond.code_spec hnamed hcode
  have hstatic : methM.isStatic = true := Cond.static_spec hnamed hmethM hstat
  obtain ⟨kP, hkP, -⟩ := className_of_methodNamed hnamed
  have hinitP : kP.init = .initialized := Cond.initialized_spec (findClass_of_methodNamed hnamed) hkP hinit
  obtain ⟨vm₁, X₁, hstep₁⟩ := X.invokestatic hexec hown hlink hnamed hmethM hstatic hkP hinitP hy (g := g) hg (argsL := argsL) (rest := rest) (hlen _ hsigM) hstack hdg
  rcases hK m meth c ⟨T.setVm vm₁, locs, cells, slots⟩ { g with stack := rest } (.invokestatic index) mk argsL.toArray X₁ hg hsize hdg hW (X₁.named hnamed) (hpre vm₁ X₁.warmed) with ⟨v, B, X', hpost, hsteps⟩ | ⟨q, B, X', hpost, hsteps⟩
  · exact Or.inl ⟨v, vm₁, B, X₁.warmed, X', hpost, fun target h => hstep₁ _ fun acts => by rw [doInvoke_state]; exact hsteps.trans h⟩
  · exact Or.inr ⟨q, vm₁, B, X₁.warmed, X', hpost, hstep₁ _ fun acts => by rw [doInvoke_state]; exact hsteps⟩
end Calls
theorem vx_cls {s : State} {T : State} {vm₁ : Vm} {E : String} {k : ClassId} (hW : s.WarmedH vm₁) (h : (T.setVm vm₁).vm.findClass E = some k) : s.vm.findClass E = some k := by
  have h1 : vm₁.findClass E = some k := h
  rw [hW.alike.findClass] at h1
  exact h1
/-- the method's frame g, with q thrown over it -/
def vx_W (p : Program) (l : Launch) (e : Env) (R : Room) (s : State) (m : MethodId) (args : Array Value) (below : List Frame) (meth : Method) (c : Code) (H : Heap) (locs : List Loc) (cells slots : Nat) (Q : State → Prop) (g : JFrame) (q : Addr) : Prop :=
  ∀ T : State, T.heap = H → Stand p l e R s m args below meth c T locs cells slots → ∃ t, Steps p.tables e below ((T.setTop g).pushFrame (.throwing q)) t ∧ Q t
def vx_Run (p : Program) (l : Launch) (e : Env) (R : Room) (s : State) (m : MethodId) (args : Array Value) (below : List Frame) (meth : Method) (c : Code) (H : Heap) (locs : List Loc) (cells slots mc ms : Nat) (g : JFrame) (rest : List Value) (Qa : State → Outcome → State → Prop) (XC : String → State → State → Prop) (free : Addr → Prop) : Prop :=
  ∀ T : State, T.heap = H → Stand p l e R s m args below meth c T locs cells slots →
    (∃ (v : Option Value) (st₀ t T' : State) (L : List Loc), st₀.heap = H ∧ Stand p l e R s m args below meth c T' (locs ++ L) (cells + mc) (slots + ms) ∧ (∀ q ∈ L, free q.base) ∧ T'.heap = t.heap ∧ T'.vm = t.vm ∧ Qa st₀ (.returned v) t ∧
      Goes p e below T g T' { g with pc := g.pc + 3, stack := v.toList ++ rest }) ∨
    (∃ (q : Addr) (st₀ t T' : State) (L : List Loc) (E : String) (ce : Cell), st₀.heap = H ∧ Stand p l e R s m args below meth c T' (locs ++ L) (cells + mc) (slots + ms) ∧ (∀ z ∈ L, free z.base) ∧ T'.heap = t.heap ∧ T'.vm = t.vm ∧ XC E st₀ t ∧ t.heap[q]? = some ce ∧ ce.vm = .none ∧ s.vm.findClass E = some ce.cls ∧
      Steps p.tables e below (T.setTop g) ((T'.setTop { g with stack := rest }).pushFrame (.throwing q)))
def vx_X {S : Type} (px : S → Prop) (B : String → S → State → Prop) (A : Nat → Prop) : String → State → State → Prop := fun E st t => ∃ u : S, px u ∧ B E u t ∧ va_F A st t
section Runs
variable {p : Program} {l : Launch} {e : Env} {R : Room} {s : State} {m : MethodId} {args : Array Value} {below : List Frame} {meth : Method} {c : Code} {H : Heap} {locs : List Loc} {cells slots : Nat}
variable {y : MethodName} {bytes cc : ByteArray} {maxL nL mc ms n index : Nat} {ret : Option FieldType} {ws : List Cond} {rm : Room} {Pc : Array Value → State → Prop} {Qc : Array Value → State → Outcome → State → Prop} {XC : String → State → State → Prop} {free : Addr → Prop} {Ts : List Cond} {own C : String} {b : Addr} {As rest : List Value} {g : JFrame}
theorem vx_callBack (cb : CallB R s args own index y bytes maxL ret ws rm mc ms n) (hM : vx_Met l y ws rm Pc Qc XC mc ms free) (hbl : FrameBlind Pc) : vx_Back l R p e below s args y 3 8 (PreOf R mc ms Pc) (PostOf Qc mc ms free) (vx_Post XC mc ms free) := by
  obtain ⟨hrc, hrs, hfr, hlo, hws, hcw, -, hini, -⟩ := cb
  exact vx_back (bytes := bytes) (maxL := maxL) (ret := ret) hM hbl hrc hrs hfr hlo hws hcw (fun a' U hW => word_at hW (Or.inl (by first | rfl | simp [Cond.onTables, Cond.keeps, Cond.steady])) hini)
theorem vx_runV (S : CallFix p m c cc nL s args Ts own) (hM : vx_Met l y ws rm Pc Qc XC mc ms free) (cw : CallW R s args own C index y bytes maxL ret ws rm mc ms n) (hp : PreV s H C b Pc As)
    (hg : g.method = m) (hn : As.length = n) (hsize : g.locals.size = nL) (hstack : g.stack = As.reverse ++ .ref b :: rest) (hW : 2 * g.monitorRoom + (rest.map fun v => v.category).sum ≤ 8) (hdg : decode cc g.pc = .ok (.invokevirtual index, 3)) (hf : cells + mc ≤ R.cells ∧ slots + ms ≤ R.slots) :
    vx_Run p l e R s m args below meth c H locs cells slots mc ms g rest (Qc (Value.ref b :: As).toArray) XC free := by
  have hK : vx_Back l R p e below s args y 3 8 (PreOf R mc ms Pc) (PostOf Qc mc ms free) (vx_Post XC mc ms free) := vx_callBack cw.1 hM hp.1
  obtain ⟨⟨-, -, -, -, -, -, hcode, -, hy, hlen, hl⟩, hin, hse⟩ := cw
  obtain ⟨hx, hb, hml, ho, -⟩ := S
  obtain ⟨-, ⟨cellB, hcB, hoB, hclB⟩, hPc⟩ := hp
  intro T hT X
  rcases vx_callV X hx (C := C) (bytes := bytes) (maxL := maxL) (ret := ret) ho hl hin hse hcode hy hK (by rw [hT]; exact hcB) hoB hclB hg (hsize.trans hml.symm) (argsL := As) (rest := rest) (fun sig h => hn.trans (hlen sig h)) hstack hW (by rw [hb]; exact hdg)
    (fun vm₁ hW₁ => ⟨hf.1, hf.2, hPc (T.setVm vm₁) hT hW₁⟩) with ⟨v, vm₁, ⟨U', l2, c2, s2⟩, hW₁, X', ⟨g', mk, t, L, e1, e2, hq, h1, hL, h2, h3⟩, st⟩ | ⟨q, vm₁, ⟨U', l2, c2, s2⟩, hW₁, X', ⟨g', mk, t, L, E, ce, e1, e2, hq, hce, hcv, hcl, h1, hL, h2, h3⟩, st⟩
  · dsimp only [Pt.U, Pt.locs, Pt.cells, Pt.slots] at X' e1 e2 h1 h2 h3 st
    subst h1; subst h2; subst h3
    exact Or.inl ⟨v, (T.setVm vm₁).calling g' mk (Value.ref b :: As).toArray, t, U', L, hT, X', hL, e1, e2, hq, st⟩
  · dsimp only [Pt.U, Pt.locs, Pt.cells, Pt.slots] at X' e1 e2 h1 h2 h3 st hcl
    subst h1; subst h2; subst h3
    exact Or.inr ⟨q, (T.setVm vm₁).calling g' mk (Value.ref b :: As).toArray, t, U', L, E, ce, hT, X', hL, e1, e2, hq, hce, hcv, vx_cls hW₁ hcl, st⟩
theorem vx_runS (S : CallFix p m c cc nL s args Ts own) (hM : vx_Met l y ws rm Pc Qc XC mc ms free) (cw : CallB R s args own index y bytes maxL ret ws rm mc ms n ∧ (Cond.static y).before args s = true) (hp : PreS s H Pc As)
    (hg : g.method = m) (hn : As.length = n) (hsize : g.locals.size = nL) (hstack : g.stack = As.reverse ++ rest) (hW : 2 * g.monitorRoom + (rest.map fun v => v.category).sum ≤ 8) (hdg : decode cc g.pc = .ok (.invokestatic index, 3)) (hf : cells + mc ≤ R.cells ∧ slots + ms ≤ R.slots) :
    vx_Run p l e R s m args below meth c H locs cells slots mc ms g rest (Qc As.toArray) XC free := by
  have hK : vx_Back l R p e below s args y 3 8 (PreOf R mc ms Pc) (PostOf Qc mc ms free) (vx_Post XC mc ms free) := vx_callBack cw.1 hM hp.1
  obtain ⟨⟨-, -, -, -, -, -, hcode, hini, hy, hlen, hl⟩, hstt⟩ := cw
  obtain ⟨hx, hb, hml, ho, -⟩ := S
  intro T hT X
  rcases vx_callS X hx (bytes := bytes) (maxL := maxL) (ret := ret) ho hl hstt hini hcode hy hK hg (hsize.trans hml.symm) (argsL := As) (rest := rest) (fun sig h => hn.trans (hlen sig h)) hstack hW (by rw [hb]; exact hdg)
    (fun vm₁ hW₁ => ⟨hf.1, hf.2, hp.2 (T.setVm vm₁) hT hW₁⟩) with ⟨v, vm₁, ⟨U', l2, c2, s2⟩, hW₁, X', ⟨g', mk, t, L, e1, e2, hq, h1, hL, h2, h3⟩, st⟩ | ⟨q, vm₁, ⟨U', l2, c2, s2⟩, hW₁, X', ⟨g', mk, t, L, E, ce, e1, e2, hq, hce, hcv, hcl, h1, hL, h2, h3⟩, st⟩
  · dsimp only [Pt.U, Pt.locs, Pt.cells, Pt.slots] at X' e1 e2 h1 h2 h3 st
    subst h1; subst h2; subst h3
    exact Or.inl ⟨v, (T.setVm vm₁).calling g' mk As.toArray, t, U', L, hT, X', hL, e1, e2, hq, st⟩
  · dsimp only [Pt.U, Pt.locs, Pt.cells, Pt.slots] at X' e1 e2 h1 h2 h3 st hcl
    subst h1; subst h2; subst h3
    exact Or.inr ⟨q, (T.setVm vm₁).calling g' mk As.toArray, t, U', L, E, ce, hT, X', hL, e1, e2, hq, hce, hcv, vx_cls hW₁ hcl, st⟩
end Runs
section Rows
variable {p : Program} {l : Launch} {e : Env} {R : Room} {s : State} {m : MethodId} {args : Array Value} {below : List Frame} {meth : Method} {c : Code} {H : Heap} {locs : List Loc} {cells slots : Nat} {Q : State → Prop}
variable {mc ms : Nat} {free : Addr → Prop} {A0 A1 : Nat → Prop} {H0 : Heap} {a : Array Value} {pc : Nat} {ls : Array Slot} {st0 rest : List Value}
theorem vx_keep {st₀ t T' : State} {L : List Loc} (h0 : st₀.heap = H) (e1 : T'.heap = t.heap) (hS : va_S A0 H0 H locs) (hA : ∀ q, q < H.size → A1 q → A0 q) (hf : ∀ q, free q → A0 q) (hL : ∀ q ∈ L, free q.base) (hF : va_F A1 st₀ t) :
    H.size ≤ T'.heap.size ∧ (∀ q : Nat, q < H.size → ¬ A1 q → T'.heap[q]? = H[q]?) ∧ va_S A0 H0 T'.heap (locs ++ L) := by
  obtain ⟨hz, hk⟩ := hF
  rw [h0] at hz hk
  exact ⟨by rw [e1]; exact hz, fun q h1 h2 => by rw [e1]; exact hk q h1 h2,
    ⟨Nat.le_trans hS.1 (by rw [e1]; exact hz), fun q h1 h2 => by rw [e1, hk q (Nat.lt_of_lt_of_le h1 hS.1) (fun z => h2 (hA q (Nat.lt_of_lt_of_le h1 hS.1) z))]; exact hS.2.1 q h1 h2, fun q hq => by
      rcases List.mem_append.mp hq with h | h
      · exact hS.2.2 q h
      · exact hf _ (hL q h)⟩⟩
theorem vx_calli {S SX : Type} {post : Int32 → S → Prop} {px : SX → Prop} {B : S → State → Prop} {BX : String → SX → State → Prop} {AX : Nat → Prop} (hr : vx_Run p l e R s m args below meth c H locs cells slots mc ms (F0 m pc ls st0) rest (va_Qi post B A1 a) (vx_X px BX AX) free) (hS : va_S A0 H0 H locs) (hA : ∀ q, q < H.size → A1 q → A0 q) (hf : ∀ q, free q → A0 q) (hAX : ∀ q, q < H.size → AX q → A0 q)
    (kx : ∀ (E : String) (ce : Cell) (q9 : Addr) (u : SX) (t : State) (H1 : Heap) (locs1 : List Loc), t.heap = H1 → s.vm.Alike t.vm → px u → BX E u t → H.size ≤ H1.size → (∀ q : Nat, q < H.size → ¬ AX q → H1[q]? = H[q]?) → va_S A0 H0 H1 locs1 → H1[q9]? = some ce → ce.vm = .none → s.vm.findClass E = some ce.cls → vx_W p l e R s m args below meth c H1 locs1 (cells + mc) (slots + ms) Q (F0 m pc ls rest) q9)
    (kk : ∀ (r : Int32) (u : S) (t : State) (H1 : Heap) (locs1 : List Loc), t.heap = H1 → s.vm.Alike t.vm → post r u → B u t → H.size ≤ H1.size → (∀ q : Nat, q < H.size → ¬ A1 q → H1[q]? = H[q]?) → va_S A0 H0 H1 locs1 → W p l e R s m args below meth c H1 locs1 (cells + mc) (slots + ms) Q (F0 m (pc + 3) ls (.int r :: rest))) : W p l e R s m args below meth c H locs cells slots Q (F0 m pc ls st0) := by
  intro T hT X
  rcases hr T hT X with ⟨v, st₀, t, T', L, h0, X', hL, e1, e2, ⟨⟨r, u, hv, hp, hb⟩, hF⟩, st⟩ | ⟨q, st₀, t, T', L, E, ce, h0, X', hL, e1, e2, ⟨u, hp, hb, hF⟩, hce, hcv, hcl, st⟩
  · cases hv
    obtain ⟨k1, k2, k3⟩ := vx_keep h0 e1 hS hA hf hL hF
    obtain ⟨t2, a1, b1⟩ := kk r u t T'.heap (locs ++ L) e1.symm (by rw [← e2]; exact X'.warmed.alike) hp hb k1 k2 k3 T' rfl X'
    exact ⟨t2, st t2 a1, b1⟩
  · obtain ⟨k1, k2, k3⟩ := vx_keep h0 e1 hS hAX hf hL hF
    obtain ⟨t2, a1, b1⟩ := kx E ce q u t T'.heap (locs ++ L) e1.symm (by rw [← e2]; exact X'.warmed.alike) hp hb k1 k2 k3 (by rw [e1]; exact hce) hcv hcl T' rfl X'
    exact ⟨t2, st.trans a1, b1⟩
theorem vx_calll {S SX : Type} {post : Int64 → S → Prop} {px : SX → Prop} {B : S → State → Prop} {BX : String → SX → State → Prop} {AX : Nat → Prop} (hr : vx_Run p l e R s m args below meth c H locs cells slots mc ms (F0 m pc ls st0) rest (va_Ql post B A1 a) (vx_X px BX AX) free) (hS : va_S A0 H0 H locs) (hA : ∀ q, q < H.size → A1 q → A0 q) (hf : ∀ q, free q → A0 q) (hAX : ∀ q, q < H.size → AX q → A0 q)
    (kx : ∀ (E : String) (ce : Cell) (q9 : Addr) (u : SX) (t : State) (H1 : Heap) (locs1 : List Loc), t.heap = H1 → s.vm.Alike t.vm → px u → BX E u t → H.size ≤ H1.size → (∀ q : Nat, q < H.size → ¬ AX q → H1[q]? = H[q]?) → va_S A0 H0 H1 locs1 → H1[q9]? = some ce → ce.vm = .none → s.vm.findClass E = some ce.cls → vx_W p l e R s m args below meth c H1 locs1 (cells + mc) (slots + ms) Q (F0 m pc ls rest) q9)
    (kk : ∀ (r : Int64) (u : S) (t : State) (H1 : Heap) (locs1 : List Loc), t.heap = H1 → s.vm.Alike t.vm → post r u → B u t → H.size ≤ H1.size → (∀ q : Nat, q < H.size → ¬ A1 q → H1[q]? = H[q]?) → va_S A0 H0 H1 locs1 → W p l e R s m args below meth c H1 locs1 (cells + mc) (slots + ms) Q (F0 m (pc + 3) ls (.long r :: rest))) : W p l e R s m args below meth c H locs cells slots Q (F0 m pc ls st0) := by
  intro T hT X
  rcases hr T hT X with ⟨v, st₀, t, T', L, h0, X', hL, e1, e2, ⟨⟨r, u, hv, hp, hb⟩, hF⟩, st⟩ | ⟨q, st₀, t, T', L, E, ce, h0, X', hL, e1, e2, ⟨u, hp, hb, hF⟩, hce, hcv, hcl, st⟩
  · cases hv
    obtain ⟨k1, k2, k3⟩ := vx_keep h0 e1 hS hA hf hL hF
    obtain ⟨t2, a1, b1⟩ := kk r u t T'.heap (locs ++ L) e1.symm (by rw [← e2]; exact X'.warmed.alike) hp hb k1 k2 k3 T' rfl X'
    exact ⟨t2, st t2 a1, b1⟩
  · obtain ⟨k1, k2, k3⟩ := vx_keep h0 e1 hS hAX hf hL hF
    obtain ⟨t2, a1, b1⟩ := kx E ce q u t T'.heap (locs ++ L) e1.symm (by rw [← e2]; exact X'.warmed.alike) hp hb k1 k2 k3 (by rw [e1]; exact hce) hcv hcl T' rfl X'
    exact ⟨t2, st.trans a1, b1⟩
theorem vx_callf {S SX : Type} {post : UInt32 → S → Prop} {px : SX → Prop} {B : S → State → Prop} {BX : String → SX → State → Prop} {AX : Nat → Prop} (hr : vx_Run p l e R s m args below meth c H locs cells slots mc ms (F0 m pc ls st0) rest (va_Qf post B A1 a) (vx_X px BX AX) free) (hS : va_S A0 H0 H locs) (hA : ∀ q, q < H.size → A1 q → A0 q) (hf : ∀ q, free q → A0 q) (hAX : ∀ q, q < H.size → AX q → A0 q)
    (kx : ∀ (E : String) (ce : Cell) (q9 : Addr) (u : SX) (t : State) (H1 : Heap) (locs1 : List Loc), t.heap = H1 → s.vm.Alike t.vm → px u → BX E u t → H.size ≤ H1.size → (∀ q : Nat, q < H.size → ¬ AX q → H1[q]? = H[q]?) → va_S A0 H0 H1 locs1 → H1[q9]? = some ce → ce.vm = .none → s.vm.findClass E = some ce.cls → vx_W p l e R s m args below meth c H1 locs1 (cells + mc) (slots + ms) Q (F0 m pc ls rest) q9)
    (kk : ∀ (r : UInt32) (u : S) (t : State) (H1 : Heap) (locs1 : List Loc), t.heap = H1 → s.vm.Alike t.vm → post r u → B u t → H.size ≤ H1.size → (∀ q : Nat, q < H.size → ¬ A1 q → H1[q]? = H[q]?) → va_S A0 H0 H1 locs1 → W p l e R s m args below meth c H1 locs1 (cells + mc) (slots + ms) Q (F0 m (pc + 3) ls (.float r :: rest))) : W p l e R s m args below meth c H locs cells slots Q (F0 m pc ls st0) := by
  intro T hT X
  rcases hr T hT X with ⟨v, st₀, t, T', L, h0, X', hL, e1, e2, ⟨⟨r, u, hv, hp, hb⟩, hF⟩, st⟩ | ⟨q, st₀, t, T', L, E, ce, h0, X', hL, e1, e2, ⟨u, hp, hb, hF⟩, hce, hcv, hcl, st⟩
  · cases hv
    obtain ⟨k1, k2, k3⟩ := vx_keep h0 e1 hS hA hf hL hF
    obtain ⟨t2, a1, b1⟩ := kk r u t T'.heap (locs ++ L) e1.symm (by rw [← e2]; exact X'.warmed.alike) hp hb k1 k2 k3 T' rfl X'
    exact ⟨t2, st t2 a1, b1⟩
  · obtain ⟨k1, k2, k3⟩ := vx_keep h0 e1 hS hAX hf hL hF
    obtain ⟨t2, a1, b1⟩ := kx E ce q u t T'.heap (locs ++ L) e1.symm (by rw [← e2]; exact X'.warmed.alike) hp hb k1 k2 k3 (by rw [e1]; exact hce) hcv hcl T' rfl X'
    exact ⟨t2, st.trans a1, b1⟩
theorem vx_calld {S SX : Type} {post : UInt64 → S → Prop} {px : SX → Prop} {B : S → State → Prop} {BX : String → SX → State → Prop} {AX : Nat → Prop} (hr : vx_Run p l e R s m args below meth c H locs cells slots mc ms (F0 m pc ls st0) rest (va_Qd post B A1 a) (vx_X px BX AX) free) (hS : va_S A0 H0 H locs) (hA : ∀ q, q < H.size → A1 q → A0 q) (hf : ∀ q, free q → A0 q) (hAX : ∀ q, q < H.size → AX q → A0 q)
    (kx : ∀ (E : String) (ce : Cell) (q9 : Addr) (u : SX) (t : State) (H1 : Heap) (locs1 : List Loc), t.heap = H1 → s.vm.Alike t.vm → px u → BX E u t → H.size ≤ H1.size → (∀ q : Nat, q < H.size → ¬ AX q → H1[q]? = H[q]?) → va_S A0 H0 H1 locs1 → H1[q9]? = some ce → ce.vm = .none → s.vm.findClass E = some ce.cls → vx_W p l e R s m args below meth c H1 locs1 (cells + mc) (slots + ms) Q (F0 m pc ls rest) q9)
    (kk : ∀ (r : UInt64) (u : S) (t : State) (H1 : Heap) (locs1 : List Loc), t.heap = H1 → s.vm.Alike t.vm → post r u → B u t → H.size ≤ H1.size → (∀ q : Nat, q < H.size → ¬ A1 q → H1[q]? = H[q]?) → va_S A0 H0 H1 locs1 → W p l e R s m args below meth c H1 locs1 (cells + mc) (slots + ms) Q (F0 m (pc + 3) ls (.double r :: rest))) : W p l e R s m args below meth c H locs cells slots Q (F0 m pc ls st0) := by
  intro T hT X
  rcases hr T hT X with ⟨v, st₀, t, T', L, h0, X', hL, e1, e2, ⟨⟨r, u, hv, hp, hb⟩, hF⟩, st⟩ | ⟨q, st₀, t, T', L, E, ce, h0, X', hL, e1, e2, ⟨u, hp, hb, hF⟩, hce, hcv, hcl, st⟩
  · cases hv
    obtain ⟨k1, k2, k3⟩ := vx_keep h0 e1 hS hA hf hL hF
    obtain ⟨t2, a1, b1⟩ := kk r u t T'.heap (locs ++ L) e1.symm (by rw [← e2]; exact X'.warmed.alike) hp hb k1 k2 k3 T' rfl X'
    exact ⟨t2, st t2 a1, b1⟩
  · obtain ⟨k1, k2, k3⟩ := vx_keep h0 e1 hS hAX hf hL hF
    obtain ⟨t2, a1, b1⟩ := kx E ce q u t T'.heap (locs ++ L) e1.symm (by rw [← e2]; exact X'.warmed.alike) hp hb k1 k2 k3 (by rw [e1]; exact hce) hcv hcl T' rfl X'
    exact ⟨t2, st.trans a1, b1⟩
theorem vx_callv {S SX : Type} {post : S → Prop} {px : SX → Prop} {B : S → State → Prop} {BX : String → SX → State → Prop} {AX : Nat → Prop} (hr : vx_Run p l e R s m args below meth c H locs cells slots mc ms (F0 m pc ls st0) rest (va_Qv post B A1 a) (vx_X px BX AX) free) (hS : va_S A0 H0 H locs) (hA : ∀ q, q < H.size → A1 q → A0 q) (hf : ∀ q, free q → A0 q) (hAX : ∀ q, q < H.size → AX q → A0 q)
    (kx : ∀ (E : String) (ce : Cell) (q9 : Addr) (u : SX) (t : State) (H1 : Heap) (locs1 : List Loc), t.heap = H1 → s.vm.Alike t.vm → px u → BX E u t → H.size ≤ H1.size → (∀ q : Nat, q < H.size → ¬ AX q → H1[q]? = H[q]?) → va_S A0 H0 H1 locs1 → H1[q9]? = some ce → ce.vm = .none → s.vm.findClass E = some ce.cls → vx_W p l e R s m args below meth c H1 locs1 (cells + mc) (slots + ms) Q (F0 m pc ls rest) q9)
    (kk : ∀ (u : S) (t : State) (H1 : Heap) (locs1 : List Loc), t.heap = H1 → s.vm.Alike t.vm → post u → B u t → H.size ≤ H1.size → (∀ q : Nat, q < H.size → ¬ A1 q → H1[q]? = H[q]?) → va_S A0 H0 H1 locs1 → W p l e R s m args below meth c H1 locs1 (cells + mc) (slots + ms) Q (F0 m (pc + 3) ls (rest))) : W p l e R s m args below meth c H locs cells slots Q (F0 m pc ls st0) := by
  intro T hT X
  rcases hr T hT X with ⟨v, st₀, t, T', L, h0, X', hL, e1, e2, ⟨⟨u, hv, hp, hb⟩, hF⟩, st⟩ | ⟨q, st₀, t, T', L, E, ce, h0, X', hL, e1, e2, ⟨u, hp, hb, hF⟩, hce, hcv, hcl, st⟩
  · cases hv
    obtain ⟨k1, k2, k3⟩ := vx_keep h0 e1 hS hA hf hL hF
    obtain ⟨t2, a1, b1⟩ := kk u t T'.heap (locs ++ L) e1.symm (by rw [← e2]; exact X'.warmed.alike) hp hb k1 k2 k3 T' rfl X'
    exact ⟨t2, st t2 a1, b1⟩
  · obtain ⟨k1, k2, k3⟩ := vx_keep h0 e1 hS hAX hf hL hF
    obtain ⟨t2, a1, b1⟩ := kx E ce q u t T'.heap (locs ++ L) e1.symm (by rw [← e2]; exact X'.warmed.alike) hp hb k1 k2 k3 (by rw [e1]; exact hce) hcv hcl T' rfl X'
    exact ⟨t2, st.trans a1, b1⟩
/-- caught by the row x of this method's table; the rows ahead don't take it -/
theorem vx_catch {own name : String} {E : String} {ce : Cell} {q : Addr} (hown : s.vm.findClass own = some m.cls) (pre : List ExceptionTableEntry) (x : ExceptionTableEntry) (suf : List ExceptionTableEntry) (hsplit : c.exceptionTable.toList = pre ++ x :: suf)
    (hpass : ∀ z ∈ pre, covers z pc = false ∨ (z.catchType ≠ 0 ∧ ∃ nm : String, (Cond.classLink own z.catchType nm).before args s = true ∧ va_Nc E nm s)) (hx : covers x pc = true) (h0 : x.catchType ≠ 0)
    (hlink : (Cond.classLink own x.catchType name).before args s = true) (hcast : (Cond.castable E name).before args s = true) (hcell : H[q]? = some ce) (hv : ce.vm = .none) (hcl : s.vm.findClass E = some ce.cls)
    (kk : W p l e R s m args below meth c H locs cells slots Q (F0 m x.handlerPc ls [.ref q])) : vx_W p l e R s m args below meth c H locs cells slots Q (F0 m pc ls rest) q := by
  intro T hT X
  have hpl : e.platform.magicAccessors = ({} : Platform).magicAccessors := by rw [X.admits.platform]
  obtain ⟨c3, c4, hc3, hc4, hasg⟩ := Cond.castable_spec hcast
  cases Option.some.inj (hc3.symm.trans hcl)
  obtain ⟨c5, hc5, hcl5⟩ := Cond.classLink_spec hown hlink e.platform hpl
  cases Option.some.inj (hc4.symm.trans hc5)
  obtain ⟨vm', X', st⟩ := X.thenCaughtThrough q (g := F0 m pc ls rest) rfl (Steps.refl _) (by rw [hT]; exact hcell) (by rw [hv]; rfl) (by obtain ⟨k9, h9, -⟩ := Vm.findClass_spec hcl; exact ⟨k9, h9⟩) pre x suf hsplit
    (fun z hz => by
      rcases hpass z hz with h | ⟨hz0, nm, hl1, hn1⟩
      · exact Or.inl h
      · obtain ⟨c6, hc6, hcl6⟩ := Cond.classLink_spec hown hl1 e.platform hpl
        obtain ⟨a8, b8, h1, h2, h3⟩ := hn1
        cases Option.some.inj (h1.symm.trans hcl)
        cases Option.some.inj (h2.symm.trans hc6)
        exact Or.inr ⟨hz0, _, hcl6, h3⟩) hx (Or.inr ⟨h0, c4, hcl5, hasg⟩)
  obtain ⟨t, a1, b1⟩ := kk (T.setVm vm') hT X'
  exact ⟨t, st.trans a1, b1⟩
end Rows
section Ends
variable {p : Program} {l : Launch} {e : Env} {R : Room} {s : State} {m : MethodId} {args : Array Value} {below : List Frame} {meth : Method} {c : Code} {H : Heap} {locs : List Loc} {cells slots : Nat} {Q : State → Prop}
variable {mc ms : Nat} {free : Addr → Prop} {A0 A1 : Nat → Prop} {H0 : Heap} {a : Array Value} {ls : Array Slot} {st0 rest : List Value}
variable {Qc : Array Value → State → Outcome → State → Prop} {XC : String → State → State → Prop}
/-- what a body that may throw owes at its end -/
def vx_MQ (below : List Frame) (Qc : Array Value → State → Outcome → State → Prop) (XC : String → State → State → Prop) (a : Array Value) (s : State) (mc ms : Nat) (free : Addr → Prop) : State → Prop := fun t =>
  ∃ o, t.status = .running ∧ Ended t below o ∧ vx_Q Qc XC mc ms free a s o t
theorem vx_ret {g : JFrame} {mc ms : Nat} (k : W p l e R s m args below meth c H locs cells slots (MQ below Qc args s mc ms free) g) : W p l e R s m args below meth c H locs cells slots (vx_MQ below Qc XC args s mc ms free) g := by
  intro T hT X
  obtain ⟨t, a1, o, b1, b2, b3, b4⟩ := k T hT X
  exact ⟨t, a1, o, b1, b2, Or.inl ⟨b3, b4⟩⟩
/-- not caught here: it goes on to the caller -/
theorem vx_widen {g : JFrame} {q : Addr} {k n : Nat} (h1 : cells ≤ k) (h2 : slots ≤ n) (kk : vx_W p l e R s m args below meth c H locs k n Q g q) : vx_W p l e R s m args below meth c H locs cells slots Q g q := fun T hT X => kk T hT (stand_widen X h1 h2)
theorem vx_out {pc : Nat} {E : String} {ce : Cell} {q : Addr} {mc ms : Nat} (hout : ∀ x ∈ c.exceptionTable.toList, covers x pc = false) (hlocks : meth.locks = false) (hcell : H[q]? = some ce) (hv : ce.vm = .none) (hcl : s.vm.findClass E = some ce.cls)
    (hx : ∀ t : State, t.heap = H → s.vm.Alike t.vm → XC E s t) (hf : ∀ z ∈ locs, free z.base) (hc : cells ≤ mc) (hs : slots ≤ ms) :
    vx_W p l e R s m args below meth c H locs cells slots (vx_MQ below Qc XC args s mc ms free) (F0 m pc ls rest) q := by
  intro T hT X
  obtain ⟨st1, hrun, hend, hW, hsm⟩ := X.leaveThrown q (g := F0 m pc ls rest) rfl rfl rfl hout hlocks
  have hcell9 : (T.setFrames (.throwing q :: below)).heap[q]? = some ce := by
    show T.heap[q]? = some ce
    rw [hT]; exact hcell
  exact ⟨_, st1, .threw q, hrun, hend, Or.inr ⟨q, rfl, E, ce, locs, hx _ hT hW.alike, hcell9, hv, hcl, hW, hsm.mono hc hs, hf⟩⟩
theorem vx_frame {U : State} {k n : Nat} (h : s.sameButNew ({ U with vm := s.vm } : State) locs k n) : s.heap.size ≤ U.heap.size ∧ ∀ q : Nat, q < s.heap.size → (∀ z ∈ locs, z.base ≠ q) → U.heap[q]? = s.heap[q]? := by
  obtain ⟨-, h2, -, -, -, h6⟩ := h
  refine ⟨h2, fun q hq hz => ?_⟩
  obtain ⟨c9, e1, e2, e3, e4⟩ := h6 q _ (Array.getElem?_eq_getElem hq)
  have hs : c9.slots = (s.heap[q]).slots := Array.ext_getElem? fun i => e4 i fun hm => hz _ hm rfl
  have h9 : c9 = s.heap[q] := by
    rw [hs] at e2
    exact e2
  have e5 : U.heap[q]? = some c9 := e1
  rw [e5, h9, Array.getElem?_eq_getElem hq]
/-- the words of a throw but the four that speak of the heap -/
def vx_no (w : Cond) : Bool := decide (w ≠ .isRef (.static Bundle.tN "UNASSIGNED_STACK" Bundle.steD)) && decide (w ≠ .isRef (.static Bundle.tN "SUPPRESSED_SENTINEL" Bundle.listD)) && decide (w ≠ .laysStatic Bundle.tN "UNASSIGNED_STACK" Bundle.steD) && decide (w ≠ .laysStatic Bundle.tN "SUPPRESSED_SENTINEL" Bundle.listD)
def vx_at0 (own : String) (ic : Nat) (X : String) (names : List String) : List Cond := (Bundle.ownAtoms0 own ic X names).filter vx_no
def vx_atS (own : String) (ic : Nat) (X : String) (names : List String) : List Cond := (Bundle.ownAtoms own ic X names).filter vx_no
/-- a word that the tables alone decide, or a good one -/
def vx_ot (w : Cond) : Bool := w.onTables || goodWord w
theorem vx_ot_at {args a' : Array Value} {s U : State} {w : Cond} (hW : s.WarmedH U.vm) (hvm : s.vm = U.vm) (hg : vx_ot w = true) (h : w.before args s = true) : w.before a' U = true := by
  simp only [vx_ot, Bool.or_eq_true] at hg
  rcases hg with hg | hg
  · exact va_tabs hg hvm h
  · exact word_at hW (good_of_word hg) h
/-- a list's words: the good ones out of the method's own list, the others by premises of their own -/
theorem vx_hat {args : Array Value} {s : State} {L B : List Cond} (h1 : ∀ w ∈ L.filter goodWord, w.before args s = true) (h2 : ∀ w ∈ L.filter (fun w => !goodWord w), w ∈ B) (h3 : ∀ w ∈ B, w.before args s = true) : ∀ w ∈ L, w.before args s = true := by
  intro w hw
  by_cases g : goodWord w = true
  · exact h1 w (List.mem_filter.mpr ⟨hw, g⟩)
  · refine h3 w (h2 w (List.mem_filter.mpr ⟨hw, ?_⟩))
    show (!goodWord w) = true
    cases hgw : goodWord w
    · rfl
    · exact absurd hgw g
theorem vx_c {args : Array Value} {s : State} {w : Cond} {B : List Cond} (h : w.before args s = true) (t : ∀ w ∈ B, w.before args s = true) : ∀ w' ∈ w :: B, w'.before args s = true := fun w' h' => (List.mem_cons.mp h').elim (fun e => by rw [e]; exact h) (t w')
theorem vx_n {args : Array Value} {s : State} : ∀ w ∈ ([] : List Cond), w.before args s = true := fun _ h => nomatch h
theorem vx_own {args : Array Value} {s : State} {L : List Cond} (h1 : ∀ w ∈ L.filter vx_no, w.before args s = true)
    (hU : (Cond.isRef (.static Bundle.tN "UNASSIGNED_STACK" Bundle.steD)).before args s = true) (hN : (Cond.isRef (.static Bundle.tN "SUPPRESSED_SENTINEL" Bundle.listD)).before args s = true)
    (lU : (Cond.laysStatic Bundle.tN "UNASSIGNED_STACK" Bundle.steD).before args s = true) (lN : (Cond.laysStatic Bundle.tN "SUPPRESSED_SENTINEL" Bundle.listD).before args s = true) : ∀ w ∈ L, w.before args s = true := by
  intro w hw
  by_cases e1 : w = .isRef (.static Bundle.tN "UNASSIGNED_STACK" Bundle.steD)
  · rw [e1]; exact hU
  · by_cases e2 : w = .isRef (.static Bundle.tN "SUPPRESSED_SENTINEL" Bundle.listD)
    · rw [e2]; exact hN
    · by_cases e3 : w = .laysStatic Bundle.tN "UNASSIGNED_STACK" Bundle.steD
      · rw [e3]; exact lU
      · by_cases e4 : w = .laysStatic Bundle.tN "SUPPRESSED_SENTINEL" Bundle.listD
        · rw [e4]; exact lN
        · exact h1 w (List.mem_filter.mpr ⟨hw, by unfold vx_no; rw [decide_eq_true e1, decide_eq_true e2, decide_eq_true e3, decide_eq_true e4]; rfl⟩)
/-- where a static field lies, its class's statics cell in H -/
def vx_L (C n d : String) (A : Nat → Prop) (U : State) (H : Heap) : Prop := ∃ (c : ClassId) (k : Class) (i : Nat) (f : Field) (a : Nat) (cell : Cell), U.vm.findClass C = some c ∧ U.fieldFound? C n d = some (c, k, i, f) ∧ f.isStatic = true ∧ k.statics = some a ∧ H[a]? = some cell ∧ cell.vm.isStatics = true ∧ cell.cls = c ∧ f.slot < cell.slots.size ∧ k.staticTypes[f.slot]? = some f.type ∧ ¬ A a
theorem vx_L.moved {C n d : String} {A : Nat → Prop} {u U : State} {H : Heap} (hvm : u.vm.Alike U.vm) (h : vx_L C n d A u H) : vx_L C n d A U H := by
  obtain ⟨c, k, i, f, a, cell, h1, h2, h3, h4, h5, h6, h7, h8, h9, h10⟩ := h
  obtain ⟨k', hi', he⟩ := State.fieldFound?_setVm hvm h2
  exact ⟨c, k', i, f, a, cell, by rw [hvm.findClass]; exact h1, hi', h3, by rw [he]; exact h4, h5, h6, h7, h8, by rw [he]; exact h9, h10⟩
theorem vx_L.kept {C n d : String} {A : Nat → Prop} {U : State} {H H1 : Heap} (h : vx_L C n d A U H) (hq : ∀ a : Nat, a < H.size → ¬ A a → H1[a]? = H[a]?) : vx_L C n d A U H1 := by
  obtain ⟨c, k, i, f, a, cell, h1, h2, h3, h4, h5, h6, h7, h8, h9, h10⟩ := h
  exact ⟨c, k, i, f, a, cell, h1, h2, h3, h4, by rw [hq a (Array.getElem?_eq_some_iff.mp h5).1 h10]; exact h5, h6, h7, h8, h9, h10⟩
theorem vx_L.narrow {C n d : String} {A B : Nat → Prop} {U : State} {H : Heap} (h : vx_L C n d A U H) (hAB : ∀ q, B q → A q) : vx_L C n d B U H := by
  obtain ⟨c, k, i, f, a, cell, h1, h2, h3, h4, h5, h6, h7, h8, h9, h10⟩ := h
  exact ⟨c, k, i, f, a, cell, h1, h2, h3, h4, h5, h6, h7, h8, h9, fun z => h10 (hAB _ z)⟩
theorem vx_L.word {C n d : String} {A : Nat → Prop} {s : State} {args : Array Value} (h : vx_L C n d A s s.heap) : (Cond.laysStatic C n d).before args s = true := by
  obtain ⟨c, k, i, f, a, cell, h1, h2, h3, h4, h5, h6, h7, h8, h9, -⟩ := h
  show (Cond.laysStatic C n d).holds args s none s [] = true
  exact Cond.laysStatic_of h1 h2 h3 h4 h5 h6 h7 h8 h9
/-- .. and what it holds: null or some reference -/
def vx_Zq (C n d : String) (A : Nat → Prop) (U : State) (H : Heap) : Prop := va_Zq C n d A U H ∧ vx_L C n d A U H
theorem vx_Zq.moved {C n d : String} {A : Nat → Prop} {u U : State} {H : Heap} (hvm : u.vm.Alike U.vm) (h : vx_Zq C n d A u H) : vx_Zq C n d A U H := ⟨va_Zq.moved hvm h.1, vx_L.moved hvm h.2⟩
theorem vx_Zq.kept {C n d : String} {A : Nat → Prop} {U : State} {H H1 : Heap} (h : vx_Zq C n d A U H) (hq : ∀ a : Nat, a < H.size → ¬ A a → H1[a]? = H[a]?) : vx_Zq C n d A U H1 := ⟨va_Zq.kept h.1 hq, vx_L.kept h.2 hq⟩
theorem vx_Zq.narrow {C n d : String} {A B : Nat → Prop} {U : State} {H : Heap} (h : vx_Zq C n d A U H) (hAB : ∀ q, B q → A q) : vx_Zq C n d B U H := ⟨va_Zq.narrow h.1 hAB, vx_L.narrow h.2 hAB⟩
theorem vx_Zqof {args : Array Value} {s : State} {C n d : String} {A : Nat → Prop} (hl : (Cond.laysStatic C n d).before args s = true) (hini : (Cond.initialized C).before args s = true) (h : (Cond.isRef (.static C n d)).before args s = true) (hA : ∀ a : Nat, a < s.heap.size → ¬ A a) : vx_Zq C n d A s s.heap := by
  refine ⟨va_Zqof hl hini h hA, ?_⟩
  obtain ⟨c, k, i, f, a, cell, h1, h2, h3, h4, h5, h6, h7, h8, h9⟩ := Cond.laysStatic_spec hl
  exact ⟨c, k, i, f, a, cell, h1, h2, h3, h4, h5, h6, h7, h8, h9, hA a (Array.getElem?_eq_some_iff.mp h5).1⟩
theorem vx_isRef {C n d : String} {v : Value} {A : Nat → Prop} {s : State} {args : Array Value} (h : va_Z C n d v A s s.heap) (hv : v.isRef = true) : (Cond.isRef (.static C n d)).before args s = true := by
  obtain ⟨cf, kf, fi, f, a, cell, h1, h2, h3, h4, h5, h6, h7, -⟩ := h
  have he : (Term.static C n d).eval args s none [] s = some v := by
    simp [Term.eval, State.fieldNamed?, h1, h2, h4, h5, h6, h7]
  simp only [Cond.before, Cond.holds, Cond.value, he]
  cases v <;> simp_all [Value.isRef]
theorem vx_isRefq {C n d : String} {A : Nat → Prop} {s : State} {args : Array Value} (h : va_Zq C n d A s s.heap) : (Cond.isRef (.static C n d)).before args s = true := by
  rcases h with h | ⟨t, h⟩
  · exact vx_isRef h rfl
  · exact vx_isRef h rfl
/-- the same frame, seen from here: as if the method were called anew in this heap -/
theorem vx_rebase {T : State} (X : Stand p l e R s m args below meth c T locs cells slots) {R' : Room} (hf : R'.frames ≤ R.frames) (hl : R'.locals ≤ R.locals) (hc : cells + R'.cells ≤ R.cells) (hs : slots + R'.slots ≤ R.slots) :
    Stand p l e R' ((T.setVm s.vm).setFrames (.invoking m args :: below)) m args below meth c T [] 0 0 := by
  have htop : (T.setVm s.vm).topJava?.isSome := X.here.top
  have hF : ((T.setVm s.vm).setFrames (.invoking m args :: below)).frames = .invoking m args :: below := State.frames_setFrames _ (State.cur_lt_of_top htop)
  obtain ⟨g₀, hg0⟩ := Option.isSome_iff_exists.mp htop
  obtain ⟨r, hr⟩ := State.topJava?_eq_some.mp hg0
  have hl9 : e.platform.stackLimits (T.setVm s.vm).me = e.platform.stackLimits s.me := X.limits
  have hb9 : (T.setVm s.vm).me.stackBytes = s.me.stackBytes := X.bytes
  refine ⟨X.admits, X.cas, X.clock, hF, ?_, X.hears, X.method, X.code, X.here, X.tail, X.warmed, ?_, ?_, ?_⟩
  · have h := X.room
    have hU : ((T.setVm s.vm).setFrames (.invoking m args :: below)).localsInUse = s.localsInUse := by
      rw [State.localsInUse_invoking hF (meth := meth) (c := c) X.method X.code, State.localsInUse_invoking X.frames X.method X.code]
    simp only [State.hasRoom, Bool.and_eq_true, decide_eq_true_eq] at h ⊢
    obtain ⟨⟨⟨⟨h1, h2, h3, h4, h5, h6⟩, h7⟩, h8⟩, h9⟩ := h
    rw [X.frames, List.length_cons] at h2 h3
    have q1 := X.heapSize
    have q2 := X.used
    simp only [hF, hU, List.length_cons, State.stackLimits_setFrames, State.stackBytes_setFrames, hl9, hb9]
    refine ⟨⟨⟨⟨by omega, by omega, by omega, by omega, by omega, h6⟩, ?_⟩, ?_⟩, X.book⟩
    · show T.heap.size + R'.cells ≤ e.platform.maxCells
      omega
    · show T.slotsUsed + R'.slots ≤ e.platform.maxSlots
      omega
  · rw [State.stackLimits_setFrames]; rfl
  · rw [State.stackBytes_setFrames]; rfl
  · refine ⟨?_, Nat.le_refl _, Nat.le_refl _, ?_, ?_, fun a c9 h9 => ⟨c9, h9, rfl, rfl, fun _ _ => rfl⟩⟩
    · obtain ⟨t, ht, -⟩ := State.frames_cons hr
      show T.setVm s.vm = { ((T.setVm s.vm).setFrames (.invoking m args :: below)).setFrames (T.setVm s.vm).frames with heap := T.heap, slotsUsed := T.slotsUsed }
      rw [State.setFrames_setFrames, State.setFrames_self ht]
      rfl
    · show T.slotsUsed = T.slotsUsed + ((T.heap.toList.drop T.heap.size).map (·.slots.size)).sum
      rw [List.drop_eq_nil_of_le (Nat.le_of_eq Array.length_toList)]
      rfl
    · show ((T.heap.toList.drop T.heap.size).map (·.slots.size)).sum ≤ 0
      rw [List.drop_eq_nil_of_le (Nat.le_of_eq Array.length_toList)]
      exact Nat.le_refl _
/-- 'throw new E()': new; dup; invokespecial; athrow -/
theorem vx_throw0 {cc : ByteArray} {pc : Nat} (hexec : p.tables.exec = Jvm.exec) (hb : c.code = cc) (hl : l.stackTraces = false) {own cls : String} {names : List String} {ik ic mc ms : Nat} {A : Nat → Prop}
    (hown : s.vm.findClass own = some m.cls) (hcls : Bundle.fit cls = true) (hnames : ∀ n ∈ names, Bundle.fit n = true)
    (hk : (Cond.classLink own ik cls).before args s = true) (hini : (Cond.initialized cls).before args s = true) (hat : ∀ w ∈ vx_at0 own ic cls names, w.before args s = true)
    (hgood : ∀ w ∈ Cond.classLink own ik cls :: Cond.initialized cls :: vx_at0 own ic cls names, vx_ot w = true)
    (hU : vx_Zq Bundle.tN "UNASSIGNED_STACK" Bundle.steD A s s.heap) (hN : vx_Zq Bundle.tN "SUPPRESSED_SENTINEL" Bundle.listD A s s.heap) (hS : va_S A s.heap H locs) (hsize : ls.size = c.maxLocals)
    (d0 : decode cc pc = .ok (.new ik, 3)) (d3 : decode cc (pc + 3) = .ok (.dup, 1)) (d4 : decode cc (pc + 4) = .ok (.invokespecial ic, 3)) (d7 : decode cc (pc + 7) = .ok (.athrow, 1))
    (hout : ∀ x ∈ c.exceptionTable.toList, covers x (pc + 7) = false)
    (hRframes : names.length + 3 < R.frames) (hRlocals : (rest.map fun v => v.category).sum + (13 * (names.length + 1) + 42) ≤ R.locals) (hRcells : cells + 1 ≤ R.cells) (hRslots : slots + 6 ≤ R.slots) (hlocks : meth.locks = false)
    (hx : ∀ t : State, s.vm.Alike t.vm → H.size ≤ t.heap.size → (∀ q : Nat, q < H.size → t.heap[q]? = H[q]?) → XC cls s t)
    (hf : ∀ z ∈ locs, free z.base) (hc : cells + 1 ≤ mc) (hs : slots + 6 ≤ ms) :
    W p l e R s m args below meth c H locs cells slots (vx_MQ below Qc XC args s mc ms free) (F0 m pc ls rest) := by
  intro T hT X
  have htr : e.platform.stackTraces = false := (show e.platform.stackTraces = l.stackTraces by rw [X.admits.platform]).trans hl
  have Y := vx_rebase X (R' := { frames := R.frames, locals := R.locals, cells := 1, slots := 6 }) (Nat.le_refl _) (Nat.le_refl _) hRcells hRslots
  obtain ⟨s', hA⟩ : ∃ z, z = (T.setVm s.vm).setFrames (.invoking m args :: below) := ⟨_, rfl⟩
  rw [← hA] at Y
  have hvm : s'.vm = s.vm := by rw [hA]; rfl
  have hhp : s'.heap = H := by rw [hA]; exact hT
  have hW0 : s.WarmedH s'.vm := by rw [hvm]; exact State.WarmedH.refl s
  have hat' : ∀ w ∈ vx_at0 own ic cls names, w.before args s' = true := fun w hw => vx_ot_at hW0 hvm.symm (hgood w (List.mem_cons_of_mem _ (List.mem_cons_of_mem _ hw))) (hat w hw)
  have hk' : (Cond.classLink own ik cls).before args s' = true := vx_ot_at hW0 hvm.symm (hgood _ List.mem_cons_self) hk
  have hini' : (Cond.initialized cls).before args s' = true := vx_ot_at hW0 hvm.symm (hgood _ (List.mem_cons_of_mem _ List.mem_cons_self)) hini
  have hU' : vx_Zq Bundle.tN "UNASSIGNED_STACK" Bundle.steD A s' s'.heap := by rw [hhp]; exact vx_Zq.moved hW0.alike (hU.kept hS.2.1)
  have hN' : vx_Zq Bundle.tN "SUPPRESSED_SENTINEL" Bundle.listD A s' s'.heap := by rw [hhp]; exact vx_Zq.moved hW0.alike (hN.kept hS.2.1)
  have h : ∀ w ∈ Bundle.ownAtoms0 own ic cls names, w.before args s' = true := vx_own hat' (vx_isRefq hU'.1) (vx_isRefq hN'.1) hU'.2.word hN'.2.word
  have hown' : s'.vm.findClass own = some m.cls := by rw [hvm]; exact hown
  have hins : (Cond.instantiable cls 6).before args s' = true := h _ (by simp [Bundle.ownAtoms0])
  obtain ⟨vm₁, cX, kX, hfX, hkX, -, -, X₁, st1⟩ := Y.newCold hexec (own := own) (C := cls) (index := ik) (n := 6) hown' hk' hins hini'
    (g := F0 m pc ls rest) rfl (by rw [hb]; exact d0) (Nat.le_refl _) (Nat.le_refl _)
  generalize hT1 : (T.setVm vm₁).pushCell { cls := cX, slots := kX.instanceTypes.map defaultValue, vm := .none } = T1 at X₁ st1
  have hcat : (Value.ref T.heap.size).category = 1 := rfl
  have hcellA : T1.heap[T.heap.size]? = some (freshCell cX kX) := by rw [← hT1]; exact State.heap_pushCell_size _ _
  have d3' : decode c.code (pc + 3) = .ok (.dup, 1) := by rw [hb]; exact d3
  obtain ⟨U, hsteps, hrun, hend, hW, hsame, ce, hce, hO⟩ := X₁.ctorThrow0 hexec htr (own := own) (cls := cls) (names := names) (ic := ic) hown' hcls hnames h (fun x hx => nomatch hx) hfX hkX hcellA (by rw [hhp, hT]; exact Nat.le_refl _)
    (g := { method := m, pc := pc + 4, locals := ls, stack := .ref T.heap.size :: .ref T.heap.size :: rest, locked := none }) rfl hsize rfl rfl (rest := rest) rfl
    (by rw [hb]; exact d4) (by rw [hb]; exact d7) hout hRframes (by simp only [List.map_cons, List.sum_cons, hcat]; omega) hlocks
  obtain ⟨f1, f2⟩ := vx_frame hsame
  rw [hhp] at f1 f2
  have hWs : s.WarmedH U.vm := State.WarmedH.trans hW0 hW
  have hcl : s.vm.findClass cls = some ce.cls := by
    have h9 := hO.cls
    rw [hvm] at h9
    exact h9
  have hall : s.sameButNew ({ U with vm := s.vm } : State) locs mc ms := by
    subst hA
    obtain ⟨e1, e2⟩ := hsame
    rw [State.setFrames_setFrames] at e1
    have h2 : (T.setVm s.vm).sameButNew ({ U with vm := s.vm } : State) [] (0 + 1) (0 + 6) := ⟨e1, e2⟩
    have h3 := X.same.trans h2
    rw [List.append_nil] at h3
    exact h3.mono hc hs
  refine ⟨U, ?_, .threw T.heap.size, hrun, hend, Or.inr ⟨T.heap.size, rfl, cls, ce, locs, hx U hWs.alike f1 (fun q hq => f2 q hq (fun z hz => nomatch hz)), hce, hO.vm, hcl, hWs, hall, hf⟩⟩
  refine st1 _ ?_
  show Steps p.tables e below (T1.setTop { method := m, pc := pc + 3, locals := ls, stack := .ref T.heap.size :: rest, locked := none }) _
  jvm_step X₁.here [X₁.here.top, hexec, d3', Value.category]
  exact hsteps
/-- 'throw new E("text")': new; dup; ldc; invokespecial; athrow -/
theorem vx_throwS {cc : ByteArray} {pc : Nat} (hexec : p.tables.exec = Jvm.exec) (hb : c.code = cc) (hl : l.stackTraces = false) {own cls text : String} {names : List String} {ik is ic mc ms sa : Nat} {A : Nat → Prop}
    (hown : s.vm.findClass own = some m.cls) (hcls : Bundle.fit cls = true) (hnames : ∀ n ∈ names, Bundle.fit n = true)
    (hk : (Cond.classLink own ik cls).before args s = true) (hini : (Cond.initialized cls).before args s = true) (hstr : vk_R own is text sa s) (hat : ∀ w ∈ vx_atS own ic cls names, w.before args s = true)
    (hgood : ∀ w ∈ Cond.classLink own ik cls :: Cond.initialized cls :: vx_atS own ic cls names, vx_ot w = true)
    (hU : vx_Zq Bundle.tN "UNASSIGNED_STACK" Bundle.steD A s s.heap) (hN : vx_Zq Bundle.tN "SUPPRESSED_SENTINEL" Bundle.listD A s s.heap) (hS : va_S A s.heap H locs) (hsize : ls.size = c.maxLocals)
    (d0 : decode cc pc = .ok (.new ik, 3)) (d3 : decode cc (pc + 3) = .ok (.dup, 1)) (d4 : decode cc (pc + 4) = .ok (.ldc is, 2)) (d6 : decode cc (pc + 6) = .ok (.invokespecial ic, 3)) (d9 : decode cc (pc + 9) = .ok (.athrow, 1))
    (hout : ∀ x ∈ c.exceptionTable.toList, covers x (pc + 9) = false)
    (hRframes : names.length + 3 < R.frames) (hRlocals : (rest.map fun v => v.category).sum + (13 * (names.length + 1) + 43) ≤ R.locals) (hRcells : cells + 1 ≤ R.cells) (hRslots : slots + 6 ≤ R.slots) (hlocks : meth.locks = false)
    (hx : ∀ t : State, s.vm.Alike t.vm → H.size ≤ t.heap.size → (∀ q : Nat, q < H.size → t.heap[q]? = H[q]?) → XC cls s t)
    (hf : ∀ z ∈ locs, free z.base) (hc : cells + 1 ≤ mc) (hs : slots + 6 ≤ ms) :
    W p l e R s m args below meth c H locs cells slots (vx_MQ below Qc XC args s mc ms free) (F0 m pc ls rest) := by
  intro T hT X
  have htr : e.platform.stackTraces = false := (show e.platform.stackTraces = l.stackTraces by rw [X.admits.platform]).trans hl
  have Y := vx_rebase X (R' := { frames := R.frames, locals := R.locals, cells := 1, slots := 6 }) (Nat.le_refl _) (Nat.le_refl _) hRcells hRslots
  obtain ⟨s', hA⟩ : ∃ z, z = (T.setVm s.vm).setFrames (.invoking m args :: below) := ⟨_, rfl⟩
  rw [← hA] at Y
  have hvm : s'.vm = s.vm := by rw [hA]; rfl
  have hhp : s'.heap = H := by rw [hA]; exact hT
  have hW0 : s.WarmedH s'.vm := by rw [hvm]; exact State.WarmedH.refl s
  have hat' : ∀ w ∈ vx_atS own ic cls names, w.before args s' = true := fun w hw => vx_ot_at hW0 hvm.symm (hgood w (List.mem_cons_of_mem _ (List.mem_cons_of_mem _ hw))) (hat w hw)
  have hk' : (Cond.classLink own ik cls).before args s' = true := vx_ot_at hW0 hvm.symm (hgood _ List.mem_cons_self) hk
  have hini' : (Cond.initialized cls).before args s' = true := vx_ot_at hW0 hvm.symm (hgood _ (List.mem_cons_of_mem _ List.mem_cons_self)) hini
  have hU' : vx_Zq Bundle.tN "UNASSIGNED_STACK" Bundle.steD A s' s'.heap := by rw [hhp]; exact vx_Zq.moved hW0.alike (hU.kept hS.2.1)
  have hN' : vx_Zq Bundle.tN "SUPPRESSED_SENTINEL" Bundle.listD A s' s'.heap := by rw [hhp]; exact vx_Zq.moved hW0.alike (hN.kept hS.2.1)
  have h : ∀ w ∈ Bundle.ownAtoms own ic cls names, w.before args s' = true := vx_own hat' (vx_isRefq hU'.1) (vx_isRefq hN'.1) hU'.2.word hN'.2.word
  have hown' : s'.vm.findClass own = some m.cls := by rw [hvm]; exact hown
  have hins : (Cond.instantiable cls 6).before args s' = true := h _ (by simp [Bundle.ownAtoms])
  obtain ⟨vm₁, cX, kX, hfX, hkX, -, -, X₁, st1⟩ := Y.newCold hexec (own := own) (C := cls) (index := ik) (n := 6) hown' hk' hins hini'
    (g := F0 m pc ls rest) rfl (by rw [hb]; exact d0) (Nat.le_refl _) (Nat.le_refl _)
  generalize hT1 : (T.setVm vm₁).pushCell { cls := cX, slots := kX.instanceTypes.map defaultValue, vm := .none } = T1 at X₁ st1
  have hcat : (Value.ref T.heap.size).category = 1 := rfl
  have hcellA : T1.heap[T.heap.size]? = some (freshCell cX kX) := by rw [← hT1]; exact State.heap_pushCell_size _ _
  have d3' : decode c.code (pc + 3) = .ok (.dup, 1) := by rw [hb]; exact d3
  have d4' : decode c.code (pc + 4) = .ok (.ldc is, 2) := by rw [hb]; exact d4
  have hstr' : vk_R own is text sa s' := vk_R.warm hW0 hstr
  obtain ⟨U, hsteps, hrun, hend, hW, hsame, ce, hce, hO⟩ := X₁.ctorThrowS hexec htr (own := own) (cls := cls) (names := names) (ic := ic) hown' hcls hnames h (fun x hx => nomatch hx) hfX hkX hcellA (by rw [hhp, hT]; exact Nat.le_refl _) (msg := .ref sa) rfl
    (g := { method := m, pc := pc + 6, locals := ls, stack := .ref sa :: .ref T.heap.size :: .ref T.heap.size :: rest, locked := none }) rfl hsize rfl rfl (rest := rest) rfl
    (by rw [hb]; exact d6) (by rw [hb]; exact d9) hout hRframes (by simp only [List.map_cons, List.sum_cons, hcat]; omega) hlocks
  obtain ⟨f1, f2⟩ := vx_frame hsame
  rw [hhp] at f1 f2
  have hWs : s.WarmedH U.vm := State.WarmedH.trans hW0 hW
  have hcl : s.vm.findClass cls = some ce.cls := by
    have h9 := hO.cls
    rw [hvm] at h9
    exact h9
  have hall : s.sameButNew ({ U with vm := s.vm } : State) locs mc ms := by
    subst hA
    obtain ⟨e1, e2⟩ := hsame
    rw [State.setFrames_setFrames] at e1
    have h2 : (T.setVm s.vm).sameButNew ({ U with vm := s.vm } : State) [] (0 + 1) (0 + 6) := ⟨e1, e2⟩
    have h3 := X.same.trans h2
    rw [List.append_nil] at h3
    exact h3.mono hc hs
  refine ⟨U, ?_, .threw T.heap.size, hrun, hend, Or.inr ⟨T.heap.size, rfl, cls, ce, locs, hx U hWs.alike f1 (fun q hq => f2 q hq (fun z hz => nomatch hz)), hce, hO.vm, hcl, hWs, hall, hf⟩⟩
  refine st1 _ ?_
  show Steps p.tables e below (T1.setTop { method := m, pc := pc + 3, locals := ls, stack := .ref T.heap.size :: rest, locked := none }) _
  jvm_step X₁.here [X₁.here.top, hexec, d3', Value.category]
  exact X₁.ldcString hexec (own := own) (text := text) (index := is) (a := sa) hown' hstr'.1 hstr'.2
    (g := { method := m, pc := pc + 4, locals := ls, stack := .ref T.heap.size :: .ref T.heap.size :: rest, locked := none }) rfl d4' _ hsteps
/-- 'throw new E("text")', the text by a wide index -/
theorem vx_throwSW {cc : ByteArray} {pc : Nat} (hexec : p.tables.exec = Jvm.exec) (hb : c.code = cc) (hl : l.stackTraces = false) {own cls text : String} {names : List String} {ik is ic mc ms sa : Nat} {A : Nat → Prop}
    (hown : s.vm.findClass own = some m.cls) (hcls : Bundle.fit cls = true) (hnames : ∀ n ∈ names, Bundle.fit n = true)
    (hk : (Cond.classLink own ik cls).before args s = true) (hini : (Cond.initialized cls).before args s = true) (hstr : vk_R own is text sa s) (hat : ∀ w ∈ vx_atS own ic cls names, w.before args s = true)
    (hgood : ∀ w ∈ Cond.classLink own ik cls :: Cond.initialized cls :: vx_atS own ic cls names, vx_ot w = true)
    (hU : vx_Zq Bundle.tN "UNASSIGNED_STACK" Bundle.steD A s s.heap) (hN : vx_Zq Bundle.tN "SUPPRESSED_SENTINEL" Bundle.listD A s s.heap) (hS : va_S A s.heap H locs) (hsize : ls.size = c.maxLocals)
    (d0 : decode cc pc = .ok (.new ik, 3)) (d3 : decode cc (pc + 3) = .ok (.dup, 1)) (d4 : decode cc (pc + 4) = .ok (.ldc_w is, 3)) (d7 : decode cc (pc + 7) = .ok (.invokespecial ic, 3)) (d10 : decode cc (pc + 10) = .ok (.athrow, 1))
    (hout : ∀ x ∈ c.exceptionTable.toList, covers x (pc + 10) = false)
    (hRframes : names.length + 3 < R.frames) (hRlocals : (rest.map fun v => v.category).sum + (13 * (names.length + 1) + 43) ≤ R.locals) (hRcells : cells + 1 ≤ R.cells) (hRslots : slots + 6 ≤ R.slots) (hlocks : meth.locks = false)
    (hx : ∀ t : State, s.vm.Alike t.vm → H.size ≤ t.heap.size → (∀ q : Nat, q < H.size → t.heap[q]? = H[q]?) → XC cls s t)
    (hf : ∀ z ∈ locs, free z.base) (hc : cells + 1 ≤ mc) (hs : slots + 6 ≤ ms) :
    W p l e R s m args below meth c H locs cells slots (vx_MQ below Qc XC args s mc ms free) (F0 m pc ls rest) := by
  intro T hT X
  have htr : e.platform.stackTraces = false := (show e.platform.stackTraces = l.stackTraces by rw [X.admits.platform]).trans hl
  have Y := vx_rebase X (R' := { frames := R.frames, locals := R.locals, cells := 1, slots := 6 }) (Nat.le_refl _) (Nat.le_refl _) hRcells hRslots
  obtain ⟨s', hA⟩ : ∃ z, z = (T.setVm s.vm).setFrames (.invoking m args :: below) := ⟨_, rfl⟩
  rw [← hA] at Y
  have hvm : s'.vm = s.vm := by rw [hA]; rfl
  have hhp : s'.heap = H := by rw [hA]; exact hT
  have hW0 : s.WarmedH s'.vm := by rw [hvm]; exact State.WarmedH.refl s
  have hat' : ∀ w ∈ vx_atS own ic cls names, w.before args s' = true := fun w hw => vx_ot_at hW0 hvm.symm (hgood w (List.mem_cons_of_mem _ (List.mem_cons_of_mem _ hw))) (hat w hw)
  have hk' : (Cond.classLink own ik cls).before args s' = true := vx_ot_at hW0 hvm.symm (hgood _ List.mem_cons_self) hk
  have hini' : (Cond.initialized cls).before args s' = true := vx_ot_at hW0 hvm.symm (hgood _ (List.mem_cons_of_mem _ List.mem_cons_self)) hini
  have hU' : vx_Zq Bundle.tN "UNASSIGNED_STACK" Bundle.steD A s' s'.heap := by rw [hhp]; exact vx_Zq.moved hW0.alike (hU.kept hS.2.1)
  have hN' : vx_Zq Bundle.tN "SUPPRESSED_SENTINEL" Bundle.listD A s' s'.heap := by rw [hhp]; exact vx_Zq.moved hW0.alike (hN.kept hS.2.1)
  have h : ∀ w ∈ Bundle.ownAtoms own ic cls names, w.before args s' = true := vx_own hat' (vx_isRefq hU'.1) (vx_isRefq hN'.1) hU'.2.word hN'.2.word
  have hown' : s'.vm.findClass own = some m.cls := by rw [hvm]; exact hown
  have hins : (Cond.instantiable cls 6).before args s' = true := h _ (by simp [Bundle.ownAtoms])
  obtain ⟨vm₁, cX, kX, hfX, hkX, -, -, X₁, st1⟩ := Y.newCold hexec (own := own) (C := cls) (index := ik) (n := 6) hown' hk' hins hini'
    (g := F0 m pc ls rest) rfl (by rw [hb]; exact d0) (Nat.le_refl _) (Nat.le_refl _)
  generalize hT1 : (T.setVm vm₁).pushCell { cls := cX, slots := kX.instanceTypes.map defaultValue, vm := .none } = T1 at X₁ st1
  have hcat : (Value.ref T.heap.size).category = 1 := rfl
  have hcellA : T1.heap[T.heap.size]? = some (freshCell cX kX) := by rw [← hT1]; exact State.heap_pushCell_size _ _
  have d3' : decode c.code (pc + 3) = .ok (.dup, 1) := by rw [hb]; exact d3
  have d4' : decode c.code (pc + 4) = .ok (.ldc_w is, 3) := by rw [hb]; exact d4
  have hstr' : vk_R own is text sa s' := vk_R.warm hW0 hstr
  obtain ⟨U, hsteps, hrun, hend, hW, hsame, ce, hce, hO⟩ := X₁.ctorThrowS hexec htr (own := own) (cls := cls) (names := names) (ic := ic) hown' hcls hnames h (fun x hx => nomatch hx) hfX hkX hcellA (by rw [hhp, hT]; exact Nat.le_refl _) (msg := .ref sa) rfl
    (g := { method := m, pc := pc + 7, locals := ls, stack := .ref sa :: .ref T.heap.size :: .ref T.heap.size :: rest, locked := none }) rfl hsize rfl rfl (rest := rest) rfl
    (by rw [hb]; exact d7) (by rw [hb]; exact d10) hout hRframes (by simp only [List.map_cons, List.sum_cons, hcat]; omega) hlocks
  obtain ⟨f1, f2⟩ := vx_frame hsame
  rw [hhp] at f1 f2
  have hWs : s.WarmedH U.vm := State.WarmedH.trans hW0 hW
  have hcl : s.vm.findClass cls = some ce.cls := by
    have h9 := hO.cls
    rw [hvm] at h9
    exact h9
  have hall : s.sameButNew ({ U with vm := s.vm } : State) locs mc ms := by
    subst hA
    obtain ⟨e1, e2⟩ := hsame
    rw [State.setFrames_setFrames] at e1
    have h2 : (T.setVm s.vm).sameButNew ({ U with vm := s.vm } : State) [] (0 + 1) (0 + 6) := ⟨e1, e2⟩
    have h3 := X.same.trans h2
    rw [List.append_nil] at h3
    exact h3.mono hc hs
  refine ⟨U, ?_, .threw T.heap.size, hrun, hend, Or.inr ⟨T.heap.size, rfl, cls, ce, locs, hx U hWs.alike f1 (fun q hq => f2 q hq (fun z hz => nomatch hz)), hce, hO.vm, hcl, hWs, hall, hf⟩⟩
  refine st1 _ ?_
  show Steps p.tables e below (T1.setTop { method := m, pc := pc + 3, locals := ls, stack := .ref T.heap.size :: rest, locked := none }) _
  jvm_step X₁.here [X₁.here.top, hexec, d3', Value.category]
  exact X₁.ldcStringW hexec (own := own) (text := text) (index := is) (a := sa) hown' hstr'.1 hstr'.2
    (g := { method := m, pc := pc + 4, locals := ls, stack := .ref T.heap.size :: .ref T.heap.size :: rest, locked := none }) rfl d4' _ hsteps
end Ends
section Bodies
variable {l : Launch}
theorem vx_ofW {y : MethodName} {ws ws' : List Cond} {rm : Room} {Pc : Array Value → State → Prop} {Qc : Array Value → State → Outcome → State → Prop} {XC : String → State → State → Prop} {mc ms : Nat} {free : Addr → Prop} {cc : ByteArray} {maxL : Nat} {ret : Option FieldType}
    (hy : plainName y.cls = true) (hw : ws = Cond.code y cc maxL ret :: ws')
    (body : ∀ p e s m args below meth c s₁, BodyLoose p l y (headSpec ws rm) cc maxL ret e s m args below meth c s₁ → c.maxLocals = maxL → (∀ x ∈ c.exceptionTable.toList, False) → Pc args s →
      W p l e (headSpec ws rm).room s m args below meth c s.heap [] 0 0 (vx_MQ below Qc XC args s mc ms free) (entryFrame m args maxL)) : vx_Met l y ws rm Pc Qc XC mc ms free := by
  refine MetFree.of_bodyS (code := cc) (maxLocals := maxL) (ret := ret) hy ?_ ?_
  · intro args s m h hn
    obtain ⟨meth, c, h1, h2, h3, h4, h5, h6, -, -⟩ := Cond.code_spec hn (atoms_spec (ws := ws) h _ (by rw [hw]; exact List.mem_cons_self))
    exact ⟨meth, c, h1, h2, h3, h4, h5, h6⟩
  · intro p e s m args below meth c s₁ B hml hP _
    have hh0 : s₁.heap = s.heap := by rw [B.state]; rfl
    have ht : ∀ x ∈ c.exceptionTable.toList, False := by
      obtain ⟨meth9, c9, h1, h2, -, -, -, -, h7, -⟩ := Cond.code_spec B.named (atoms_spec (ws := ws) B.pre _ (by rw [hw]; exact List.mem_cons_self))
      cases Option.some.inj (h1.symm.trans B.method)
      cases Option.some.inj (h2.symm.trans (Stand.of_body B).code)
      intro x hx
      rw [Array.isEmpty_iff.mp h7] at hx
      cases hx
    obtain ⟨t, a1, o, b1, b2, b3⟩ := body p e s m args below meth c s₁ B hml ht hP s₁ hh0 (Stand.of_body B)
    exact ⟨t, o, a1, b1, b2, b3⟩
/-- the table of a body with handlers -/
theorem vx_table {p : Program} {x y : MethodName} {S : Spec} {cc bytes : ByteArray} {maxL maxL' : Nat} {ret ret' : Option FieldType} {e : Env} {s s₁ : State} {m : MethodId} {args : Array Value} {below : List Frame} {meth : Method} {c : Code} {hh : List (Nat × Nat × Nat × Nat)}
    (B : BodyLoose p l y S cc maxL ret e s m args below meth c s₁) (h : (Cond.codeWith y bytes maxL' ret' hh).before args s = true) : c.exceptionTable.toList = tableOf hh := by
  obtain ⟨m9, meth9, c9, hn9, h1, h2, -, -, h6, -⟩ := Cond.codeWith_spec h
  cases Option.some.inj (hn9.symm.trans B.named)
  cases Option.some.inj (h1.symm.trans B.method)
  cases Option.some.inj (h2.symm.trans (Stand.of_body B).code)
  rw [← h6, table_eq]
end Bodies
end VXA
/-! ===== END ===== -/
/-! ===== BEGIN a static call of a method with an exception table ===== -/
section VXS
variable {p : Program} {l : Launch} {e : Env} {R : Room} {s : State} {m : MethodId} {args : Array Value} {below : List Frame} {meth : Method} {c : Code} {T : State} {H : Heap} {locs : List Loc} {cells slots : Nat}
abbrev vx_CSW (R : Room) (s : State) (args : Array Value) (own : String) (index : Nat) (y : MethodName) (bytes : ByteArray) (maxL : Nat) (ret : Option FieldType) (hh : List (Nat × Nat × Nat × Nat)) (ws : List Cond) (rm : Room) (mc ms n : Nat) : Prop :=
  (rm.cells = mc ∧ rm.slots = ms ∧ rm.frames + 1 ≤ R.frames ∧ 8 + (maxL + 11) + rm.locals ≤ R.locals ∧ (∀ w ∈ ws, ∀ (a' : Array Value) (U : State), s.WarmedH U.vm → w.before a' U = true) ∧ Cond.codeWith y bytes maxL ret hh ∈ ws) ∧
  (Cond.codeWith y bytes maxL ret hh).before args s = true ∧ (Cond.initialized y.cls).before args s = true ∧ (y.cls ≠ "java/lang/invoke/MethodHandle" ∧ y.cls ≠ "java/lang/invoke/VarHandle") ∧
  (∀ sig, parseMethodDescriptor y.desc = some sig → n = sig.parameters.length) ∧ (Cond.methodLink own index y).before args s = true ∧ (Cond.static y).before args s = true
theorem vx_cwSW {own : String} {index maxL mc ms : Nat} {y : MethodName} {bytes : ByteArray} {ret : Option FieldType} {hh : List (Nat × Nat × Nat × Nat)} {Ts ws ws' : List Cond} {rm : Room} (n : Nat) (ht : ∀ w ∈ Ts, w.before args s = true) (hT : GoodIn Ts (va_wsS own index y ws)) (hw : ws = Cond.codeWith y bytes maxL ret hh :: ws') (hrc : rm.cells = mc) (hrs : rm.slots = ms)
    (hd : y.cls ≠ "java/lang/invoke/MethodHandle" ∧ y.cls ≠ "java/lang/invoke/VarHandle" ∧ (parseMethodDescriptor y.desc).map (fun d => d.parameters.length) = some n) (hR : rm.frames + 1 ≤ R.frames ∧ 8 + (maxL + 11) + rm.locals ≤ R.locals) :
    vx_CSW R s args own index y bytes maxL ret hh ws rm mc ms n := by
  have ok : ∀ w ∈ va_wsS own index y ws, w.before args s = true := fun w h => ht w (hT w h).1
  have hG : GoodIn Ts ws := fun w h => hT w (by unfold va_wsS; exact List.mem_append_right _ h)
  have hc : Cond.codeWith y bytes maxL ret hh ∈ ws := by rw [hw]; exact List.mem_cons_self
  refine ⟨⟨hrc, hrs, hR.1, hR.2, pay_in ht hG, hc⟩, ht _ (hG _ hc).1, ok _ (by simp [va_wsS]), ⟨hd.1, hd.2.1⟩, fun sig h => ?_, ok _ (by simp [va_wsS]), ok _ (by simp [va_wsS])⟩
  have h2 := hd.2.2
  rw [h] at h2
  exact (Option.some.inj h2).symm
theorem vx_callSW (X : Stand p l e R s m args below meth c T locs cells slots) (hexec : p.tables.exec = Jvm.exec) {own : String} {index : Nat} {y : MethodName} {bytes : ByteArray} {maxL : Nat} {ret : Option FieldType} {hh : List (Nat × Nat × Nat × Nat)}
    (hown : s.vm.findClass own = some m.cls) (hlink : (Cond.methodLink own index y).before args s = true) (hstat : (Cond.static y).before args s = true) (hinit : (Cond.initialized y.cls).before args s = true)
    (hcode : (Cond.codeWith y bytes maxL ret hh).before args s = true) (hy : y.cls ≠ "java/lang/invoke/MethodHandle" ∧ y.cls ≠ "java/lang/invoke/VarHandle")
    {W9 : Nat} {Pre : Pt → Array Value → Prop} {Post : Pt → Array Value → Option Value → Pt → Prop} (hK : Back l R p e below s args y 3 W9 Pre Post)
    {g : JFrame} (hg : g.method = m) (hsize : g.locals.size = c.maxLocals) {argsL rest : List Value} (hlen : ∀ sig, parseMethodDescriptor y.desc = some sig → argsL.length = sig.parameters.length)
    (hstack : g.stack = argsL.reverse ++ rest) (hW : 2 * g.monitorRoom + (rest.map fun v => v.category).sum ≤ W9) (hdg : decode c.code g.pc = .ok (.invokestatic index, 3))
    (hpre : ∀ vm₁, s.WarmedH vm₁ → Pre ⟨T.setVm vm₁, locs, cells, slots⟩ argsL.toArray) :
    ∃ (v : Option Value) (vm₁ : Vm) (B : Pt), s.WarmedH vm₁ ∧ Stand p l e R s m args below meth c B.U B.locs B.cells B.slots ∧ Post ⟨T.setVm vm₁, locs, cells, slots⟩ argsL.toArray v B ∧
      ∀ target, Steps p.tables e below (B.U.setTop { g with pc := g.pc + 3, stack := v.toList ++ rest }) target → Steps p.tables e below (T.setTop g) target := by
  obtain ⟨mk, methM, cM, hnamed, hmethM, -, -, -, -, -, -, hsigM⟩ := Cond.codeWith_spec hcode
  have hstatic : methM.isStatic = true := Cond.static_spec hnamed hmethM hstat
  obtain ⟨kP, hkP, -⟩ := className_of_methodNamed hnamed
  have hinitP : kP.init = .initialized := Cond.initialized_spec (findClass_of_methodNamed hnamed) hkP hinit
  obtain ⟨vm₁, X₁, hstep₁⟩ := X.invokestatic hexec hown hlink hnamed hmethM hstatic hkP hinitP hy (g := g) hg (argsL := argsL) (rest := rest) (hlen _ hsigM) hstack hdg
  obtain ⟨v, B, X', hpost, hsteps⟩ := hK m meth c ⟨T.setVm vm₁, locs, cells, slots⟩ { g with stack := rest } (.invokestatic index) mk argsL.toArray X₁ hg hsize hdg hW (X₁.named hnamed) (hpre vm₁ X₁.warmed)
  exact ⟨v, vm₁, B, X₁.warmed, X', hpost, fun target h => hstep₁ _ fun acts => by rw [doInvoke_state]; exact hsteps.trans h⟩
theorem vx_runSW {y : MethodName} {bytes cc : ByteArray} {maxL nL mc ms n index : Nat} {ret : Option FieldType} {hh : List (Nat × Nat × Nat × Nat)} {ws : List Cond} {rm : Room} {Pc : Array Value → State → Prop} {Qc : Array Value → State → Outcome → State → Prop} {free : Addr → Prop} {Ts : List Cond} {own : String} {As rest : List Value} {g : JFrame}
    (S : CallFix p m c cc nL s args Ts own) (hM : Met l y ws rm Pc Qc mc ms free) (cw : vx_CSW R s args own index y bytes maxL ret hh ws rm mc ms n) (hp : PreS s H Pc As)
    (hg : g.method = m) (hn : As.length = n) (hsize : g.locals.size = nL) (hstack : g.stack = As.reverse ++ rest) (hW : 2 * g.monitorRoom + (rest.map fun v => v.category).sum ≤ 8) (hdg : decode cc g.pc = .ok (.invokestatic index, 3)) (hf : cells + mc ≤ R.cells ∧ slots + ms ≤ R.slots) :
    va_Run p l e R s m args below meth c H locs cells slots mc ms g rest (Qc As.toArray) (free) := by
  obtain ⟨⟨hrc, hrs, hfr, hlo, hws, hcw⟩, hcode, hini, hy, hlen, hl, hstt⟩ := cw
  have hK : Back l R p e below s args y 3 8 (PreOf R mc ms Pc) (PostOf Qc mc ms free) := va_backW (hh := hh) (bytes := bytes) (maxL := maxL) (ret := ret) hM hp.1 hrc hrs hfr hlo hws hcw (fun a' U hW => word_at hW (Or.inl (by first | rfl | simp [Cond.onTables, Cond.keeps, Cond.steady])) hini)
  obtain ⟨hx, hb, hml, ho, -⟩ := S
  intro T hT X
  obtain ⟨v, vm₁, ⟨U', l2, c2, s2⟩, hW₁, X', ⟨g', mk, t, L, e1, e2, hq, h1, hL, h2, h3⟩, st⟩ := vx_callSW X hx (hh := hh) (bytes := bytes) (maxL := maxL) (ret := ret) ho hl hstt hini hcode hy hK hg (hsize.trans hml.symm) (argsL := As) (rest := rest) (fun sig h => hn.trans (hlen sig h)) hstack hW (by rw [hb]; exact hdg)
    (fun vm₁ hW₁ => ⟨hf.1, hf.2, hp.2 (T.setVm vm₁) hT hW₁⟩)
  dsimp only [Pt.U, Pt.locs, Pt.cells, Pt.slots] at X' e1 e2 h1 h2 h3 st
  subst h1; subst h2; subst h3
  exact ⟨v, (T.setVm vm₁).calling g' mk As.toArray, t, U', L, hT, X', hL, e1, e2, hq, st⟩
/-- not caught here, past rows that name other classes: it goes on to the caller -/
theorem vx_outP {p : Program} {l : Launch} {e : Env} {R : Room} {s : State} {m : MethodId} {args : Array Value} {below : List Frame} {meth : Method} {c : Code} {H : Heap} {locs : List Loc} {cells slots : Nat} {free : Addr → Prop} {ls : Array Slot} {rest : List Value} {Qc : Array Value → State → Outcome → State → Prop} {XC : String → State → State → Prop}
    {pc : Nat} {own E : String} {ce : Cell} {q : Addr} {mc ms : Nat} (hown : s.vm.findClass own = some m.cls) (hlocks : meth.locks = false)
    (hpass : ∀ z ∈ c.exceptionTable.toList, covers z pc = false ∨ (z.catchType ≠ 0 ∧ ∃ nm : String, (Cond.classLink own z.catchType nm).before args s = true ∧ va_Nc E nm s)) (hcell : H[q]? = some ce) (hv : ce.vm = .none) (hcl : s.vm.findClass E = some ce.cls)
    (hx : ∀ t : State, t.heap = H → s.vm.Alike t.vm → XC E s t) (hf : ∀ z ∈ locs, free z.base) (hc : cells ≤ mc) (hs : slots ≤ ms) :
    vx_W p l e R s m args below meth c H locs cells slots (vx_MQ below Qc XC args s mc ms free) (F0 m pc ls rest) q := by
  intro T hT X
  have hpl : e.platform.magicAccessors = ({} : Platform).magicAccessors := by rw [X.admits.platform]
  obtain ⟨vm', hW', X', st⟩ := X.outThrough hlocks q (g := F0 m pc ls rest) rfl rfl rfl (cell := ce) (by rw [hT]; exact hcell) (by rw [hv]; rfl)
    (by obtain ⟨k9, h9, -⟩ := Vm.findClass_spec hcl; exact ⟨k9, h9⟩) (fun z hz => by
      rcases hpass z hz with h | ⟨hz0, nm, hl1, hn1⟩
      · exact Or.inl h
      · obtain ⟨c6, hc6, hcl6⟩ := Cond.classLink_spec hown hl1 e.platform hpl
        obtain ⟨a8, b8, h1, h2, h3⟩ := hn1
        cases Option.some.inj (h1.symm.trans hcl)
        cases Option.some.inj (h2.symm.trans hc6)
        exact Or.inr ⟨hz0, _, hcl6, h3⟩)
  obtain ⟨g₀, hfr⟩ := X'.frames_eq
  have hcell9 : ((T.setVm vm').setFrames (.throwing q :: below)).heap[q]? = some ce := by
    show T.heap[q]? = some ce
    rw [hT]; exact hcell
  have hend : Ended ((T.setVm vm').setFrames (.throwing q :: below)) below (.threw q) := State.frames_setFrames _ (State.cur_lt_of_frames hfr)
  refine ⟨(T.setVm vm').setFrames (.throwing q :: below), ?_, .threw q, X'.here.running, hend, Or.inr ⟨q, rfl, E, ce, locs, hx _ hT (X'.ends _).1.alike, hcell9, hv, hcl, (X'.ends _).1, (X'.ends _).2.mono hc hs, hf⟩⟩
  rw [X.pushThrowing_eq]
  exact st
/-- a thing of a world lies in the heap -/
theorem vx_lt {D : va_G} {cl : List vw_C} {ws : va_W} {H1 : Heap} (h : va_P D cl ws H1) {k : Nat} {q : Nat × va_E} (hk : ws[k]? = some q) : q.1 < H1.size := (h k q hk).lt
end VXS
/-! ===== END ===== -/
/-! ===== BEGIN methods with a table of their own: called by a name, returning or throwing ===== -/
section VXH
/-! vx_backW, vx_callVX, vx_callSX, vx_callVW, vx_runVW, vx_runVX, vx_runSX, vx_ofWH follow the same proofs as their sisters above (Free/Laws.lean, Shelf42/LK1.lean); vx_outP calls Shelf42/NT130.lean (outThrough). -/
section
variable {l : Launch} {R : Room} {p : Program} {e : Env} {below : List Frame} {s : State} {sargs : Array Value} {y : MethodName} {len W9 : Nat}
theorem vx_backW {ws : List Cond} {rm : Room} {Pc : Array Value → State → Prop} {Qc : Array Value → State → Outcome → State → Prop} {XC : String → State → State → Prop} {mc ms : Nat} {free : Addr → Prop} {bytes : ByteArray} {maxL : Nat} {ret : Option FieldType} {hh : List (Nat × Nat × Nat × Nat)}
    (hM : vx_Met l y ws rm Pc Qc XC mc ms free) (hblind : FrameBlind Pc) (hrc : rm.cells = mc) (hrs : rm.slots = ms)
    (hframes : rm.frames + 1 ≤ R.frames) (hlocals : W9 + (maxL + 11) + rm.locals ≤ R.locals)
    (hws : ∀ w ∈ ws, ∀ a' U, s.WarmedH U.vm → w.before a' U = true) (hcode : Cond.codeWith y bytes maxL ret hh ∈ ws) (hinit : ∀ a' U, s.WarmedH U.vm → (Cond.initialized y.cls).before a' U = true) :
    vx_Back l R p e below s sargs y len W9 (PreOf R mc ms Pc) (PostOf Qc mc ms free) (vx_Post XC mc ms free) := by
  intro m meth c A g ig mk a X hg hsize hdg hW hn hp
  have h1 : (headSpec ws rm).pre.before a A.U = true := atoms_intro fun w hw => hws w hw _ _ X.warmed
  have h2 : (Cond.codeWith y bytes maxL ret hh).before a A.U = true := hws _ hcode _ _ X.warmed
  have h3 : (Cond.initialized y.cls).before a A.U = true := hinit _ _ X.warmed
  have h4 : A.cells + (headSpec ws rm).room.cells ≤ R.cells := by rw [show (headSpec ws rm).room.cells = mc from hrc]; exact hp.1
  have h5 : A.slots + (headSpec ws rm).room.slots ≤ R.slots := by rw [show (headSpec ws rm).room.slots = ms from hrs]; exact hp.2.1
  have hPc : Pc a (A.U.calling g mk a) := hblind _ _ _ _ hp.2.2
  obtain ⟨U, Ls, c0, s0⟩ := A
  dsimp only [Pt.U, Pt.locs, Pt.cells, Pt.slots] at h1 h2 h3 h4 h5 X hn hPc ⊢
  obtain ⟨m9, methY, cY, hn9, hmY, hcY, -, hlY, -⟩ := Cond.codeWith_spec h2
  cases Option.some.inj (hn9.symm.trans hn)
  obtain ⟨kY, hkY, -⟩ := className_of_methodNamed hn
  have hinitY : kY.init = .initialized := Cond.initialized_spec (findClass_of_methodNamed hn) hkY h3
  have h : At U g.method c below := by rw [hg]; exact X.here
  have hlocals9 : W9 + (maxL + 11) + (headSpec ws rm).room.locals ≤ R.locals := hlocals
  have happ : (headSpec ws rm).appliesLoose y e.platform (U.calling g mk a) = true :=
    Spec.appliesLoose_calling (g := g) h hdg hn hkY hinitY
      (X.room_calling (g := g) (R' := (headSpec ws rm).room) hsize hmY hcY hframes (by rw [hlY]; omega) h4 h5) h1
  obtain ⟨mid, hmid⟩ := h.above
  have hfr : (U.setTop g).frames = (.java g :: mid) ++ below := by rw [State.frames_setTop' g h.top, hmid]; rfl
  obtain ⟨o, s₂, hsteps, -, hend, hq⟩ := Steps.callFree hM p X.admits X.cas X.clock (acts := []) hfr happ hPc trivial
  have hq' : vx_Q Qc XC mc ms free a (U.calling g mk a) o s₂ := hq
  rw [State.frames_setTop' g h.top] at hend
  obtain ⟨g₀, hg0⟩ := Option.isSome_iff_exists.mp h.top
  obtain ⟨r, hr⟩ := State.topJava?_eq_some.mp hg0
  have hr' : (({ U with heap := s₂.heap, slotsUsed := s₂.slotsUsed } : State).setVm s₂.vm).frames = .java g₀ :: r := hr
  rcases hq' with ⟨hqc, L, hfe, hL⟩ | ⟨q, rfl, E, ce, L, hx, hce, hcv, hcl, hW₂, hsm, hL⟩
  · obtain ⟨⟨v, rfl⟩, hW₂, e2, q2, q3, q4, q5, q6⟩ := id hfe
    have e3 : s₂ = ({ (U.calling g mk a).setFrames s₂.frames with heap := s₂.heap, slotsUsed := s₂.slotsUsed } : State).setVm s₂.vm := by
      have : s₂ = ({ s₂ with vm := (U.calling g mk a).vm } : State).setVm s₂.vm := rfl
      rw [e2] at this
      exact this
    obtain ⟨c₂, i₂, len₂, hc₂, hd₂, hf₂⟩ := hend
    have hW' : U.WarmedH s₂.vm := hW₂
    have hcc : c₂ = c := by
      have h1 : s₂.code? g.method = U.code? g.method := by
        rw [State.code?_eq, State.code?_eq, hW'.alike.method?]
      exact Option.some.inj (hc₂.symm.trans (h1.trans h.code))
    subst hcc
    have hlen : len₂ = len := by rw [hdg] at hd₂; cases hd₂; rfl
    subst hlen
    have hs₂ : s₂ = (({ U with heap := s₂.heap, slotsUsed := s₂.slotsUsed } : State).setVm s₂.vm).setTop { g with pc := g.pc + len₂, stack := v.toList ++ g.stack } := by
      refine e3.trans ?_
      rw [hf₂, State.calling_eq h.top, State.setFrames_setFrames, State.setTop_of_frames _ hr', hr]
      rfl
    have hsame : U.sameButNew ({ U with heap := s₂.heap, slotsUsed := s₂.slotsUsed } : State) L mc ms := by
      refine ⟨?_, q2, q3, q4, q5, q6⟩
      obtain ⟨t, ht, -⟩ := State.frames_cons hr
      show ({ U with heap := s₂.heap, slotsUsed := s₂.slotsUsed } : State) = { U.setFrames U.frames with heap := s₂.heap, slotsUsed := s₂.slotsUsed }
      rw [State.setFrames_self ht]
    subst hg
    refine Or.inl ⟨v, ⟨(({ U with heap := s₂.heap, slotsUsed := s₂.slotsUsed } : State).setVm s₂.vm), Ls ++ L, c0 + mc, s0 + ms⟩,
      ⟨X.admits, X.cas, X.clock, X.frames, X.room, X.hears, X.method, X.code, (X.here.setHeapUsed s₂.heap s₂.slotsUsed).setVm hW'.alike, X.tail, State.WarmedH.trans X.warmed hW', X.limits, X.bytes, X.same.trans (hsame.setVm s.vm)⟩,
      ⟨g, mk, s₂, L, rfl, rfl, hqc, rfl, hL, rfl, rfl⟩, ?_⟩
    show Steps p.tables e below _ ((({ U with heap := s₂.heap, slotsUsed := s₂.slotsUsed } : State).setVm s₂.vm).setTop { g with pc := g.pc + len₂, stack := v.toList ++ g.stack })
    rw [← hs₂]
    exact hsteps
  · obtain ⟨e2, q2, q3, q4, q5, q6⟩ := id hsm
    have e3 : s₂ = ({ (U.calling g mk a).setFrames s₂.frames with heap := s₂.heap, slotsUsed := s₂.slotsUsed } : State).setVm s₂.vm := by
      have : s₂ = ({ s₂ with vm := (U.calling g mk a).vm } : State).setVm s₂.vm := rfl
      rw [e2] at this
      exact this
    have hf₂ : s₂.frames = .throwing q :: .java g :: U.frames.tail := hend
    have hW' : U.WarmedH s₂.vm := hW₂
    have hs₂ : s₂ = ((({ U with heap := s₂.heap, slotsUsed := s₂.slotsUsed } : State).setVm s₂.vm).setTop g).pushFrame (.throwing q) := by
      refine e3.trans ?_
      rw [hf₂, State.calling_eq h.top, State.setFrames_setFrames, State.pushFrame, State.frames_setTop _ hr', State.setTop_of_frames _ hr', State.setFrames_setFrames, hr]
      rfl
    have hsame : U.sameButNew ({ U with heap := s₂.heap, slotsUsed := s₂.slotsUsed } : State) L mc ms := by
      refine ⟨?_, q2, q3, q4, q5, q6⟩
      obtain ⟨t, ht, -⟩ := State.frames_cons hr
      show ({ U with heap := s₂.heap, slotsUsed := s₂.slotsUsed } : State) = { U.setFrames U.frames with heap := s₂.heap, slotsUsed := s₂.slotsUsed }
      rw [State.setFrames_self ht]
    subst hg
    refine Or.inr ⟨q, ⟨(({ U with heap := s₂.heap, slotsUsed := s₂.slotsUsed } : State).setVm s₂.vm), Ls ++ L, c0 + mc, s0 + ms⟩,
      ⟨X.admits, X.cas, X.clock, X.frames, X.room, X.hears, X.method, X.code, (X.here.setHeapUsed s₂.heap s₂.slotsUsed).setVm hW'.alike, X.tail, State.WarmedH.trans X.warmed hW', X.limits, X.bytes, X.same.trans (hsame.setVm s.vm)⟩,
      ⟨g, mk, s₂, L, E, ce, rfl, rfl, hx, hce, hcv, hcl, rfl, hL, rfl, rfl⟩, ?_⟩
    show Steps p.tables e below _ (((({ U with heap := s₂.heap, slotsUsed := s₂.slotsUsed } : State).setVm s₂.vm).setTop g).pushFrame (.throwing q))
    rw [← hs₂]
    exact hsteps
end
variable {p : Program} {l : Launch} {e : Env} {R : Room} {s : State} {m : MethodId} {args : Array Value} {below : List Frame} {meth : Method} {c : Code} {T : State} {H : Heap} {locs : List Loc} {cells slots : Nat}
theorem vx_callVX (X : Stand p l e R s m args below meth c T locs cells slots) (hexec : p.tables.exec = Jvm.exec) {own C : String} {index : Nat} {y : MethodName} {bytes : ByteArray} {maxL : Nat} {ret : Option FieldType} {hh : List (Nat × Nat × Nat × Nat)}
    (hown : s.vm.findClass own = some m.cls) (hlink : (Cond.methodLink own index y).before args s = true) (hinst : (Cond.instanceMethod y).before args s = true) (hsel : (Cond.selects C y y).before args s = true)
    (hcode : (Cond.codeWith y bytes maxL ret hh).before args s = true) (hy : y.cls ≠ "java/lang/invoke/MethodHandle" ∧ y.cls ≠ "java/lang/invoke/VarHandle")
    {W9 : Nat} {Pre : Pt → Array Value → Prop} {Post : Pt → Array Value → Option Value → Pt → Prop} {PostX : Pt → Array Value → Addr → Pt → Prop} (hK : vx_Back l R p e below s args y 3 W9 Pre Post PostX)
    {b : Addr} {cellB : Cell} (hcell : T.heap[b]? = some cellB) (hobj : cellB.vm.isStatics = false) (hcls : s.vm.findClass C = some cellB.cls)
    {g : JFrame} (hg : g.method = m) (hsize : g.locals.size = c.maxLocals) {argsL rest : List Value} (hlen : ∀ sig, parseMethodDescriptor y.desc = some sig → argsL.length = sig.parameters.length)
    (hstack : g.stack = argsL.reverse ++ .ref b :: rest) (hW : 2 * g.monitorRoom + (rest.map fun v => v.category).sum ≤ W9) (hdg : decode c.code g.pc = .ok (.invokevirtual index, 3))
    (hpre : ∀ vm₁, s.WarmedH vm₁ → Pre ⟨T.setVm vm₁, locs, cells, slots⟩ (Value.ref b :: argsL).toArray) :
    (∃ (v : Option Value) (vm₁ : Vm) (B : Pt), s.WarmedH vm₁ ∧ Stand p l e R s m args below meth c B.U B.locs B.cells B.slots ∧ Post ⟨T.setVm vm₁, locs, cells, slots⟩ (Value.ref b :: argsL).toArray v B ∧
      ∀ target, Steps p.tables e below (B.U.setTop { g with pc := g.pc + 3, stack := v.toList ++ rest }) target → Steps p.tables e below (T.setTop g) target) ∨
    (∃ (q : Addr) (vm₁ : Vm) (B : Pt), s.WarmedH vm₁ ∧ Stand p l e R s m args below meth c B.U B.locs B.cells B.slots ∧ PostX ⟨T.setVm vm₁, locs, cells, slots⟩ (Value.ref b :: argsL).toArray q B ∧
      Steps p.tables e below (T.setTop g) ((B.U.setTop { g with stack := rest }).pushFrame (.throwing q))) := by
  obtain ⟨mk, methM, hnamed, hmethM, hstM, habM⟩ := Cond.instanceMethod_spec hinst
  obtain ⟨m8, methM', cM, hn8, hmethM', -, -, -, -, -, -, hsigM⟩ := Cond.codeWith_spec hcode
  cases Option.some.inj (hn8.symm.trans hnamed)
  cases hmethM.symm.trans hmethM'
  obtain ⟨c2, r2, m2, q1, q2, q3, q4, kP, hkP, hkPi⟩ := Cond.selects_spec hsel
  cases hcls.symm.trans q1
  cases (State.methodFound?_of_named hnamed hy).symm.trans q2
  cases hnamed.symm.trans q3
  have hselP : selectMethod e.platform s.vm cellB.cls mk = .method mk := by rw [Launch.admits_selectMethod X.admits]; exact q4
  obtain ⟨vm₁, X₁, hstep₁⟩ := X.invokevirtual hexec hown hlink hnamed hmethM hstM hkP hkPi hy (a := b) (cell := cellB) hcell
    (fun z h => by rw [h] at hobj; cases hobj) hselP hmethM habM hkP hkPi (g := g) hg (argsL := argsL) (rest := rest) (hlen _ hsigM) hstack hdg
  rcases hK m meth c ⟨T.setVm vm₁, locs, cells, slots⟩ { g with stack := rest } (.invokevirtual index) mk (Value.ref b :: argsL).toArray X₁ hg hsize hdg hW (X₁.named hnamed) (hpre vm₁ X₁.warmed) with ⟨v, B, X', hpost, hsteps⟩ | ⟨q, B, X', hpost, hsteps⟩
  · exact Or.inl ⟨v, vm₁, B, X₁.warmed, X', hpost, fun target h => hstep₁ _ fun acts => by rw [doInvoke_state]; exact hsteps.trans h⟩
  · exact Or.inr ⟨q, vm₁, B, X₁.warmed, X', hpost, hstep₁ _ fun acts => by rw [doInvoke_state]; exact hsteps⟩
theorem vx_callSX (X : Stand p l e R s m args below meth c T locs cells slots) (hexec : p.tables.exec = Jvm.exec) {own : String} {index : Nat} {y : MethodName} {bytes : ByteArray} {maxL : Nat} {ret : Option FieldType} {hh : List (Nat × Nat × Nat × Nat)}
    (hown : s.vm.findClass own = some m.cls) (hlink : (Cond.methodLink own index y).before args s = true) (hstat : (Cond.static y).before args s = true) (hinit : (Cond.initialized y.cls).before args s = true)
    (hcode : (Cond.codeWith y bytes maxL ret hh).before args s = true) (hy : y.cls ≠ "java/lang/invoke/MethodHandle" ∧ y.cls ≠ "java/lang/invoke/VarHandle")
    {W9 : Nat} {Pre : Pt → Array Value → Prop} {Post : Pt → Array Value → Option Value → Pt → Prop} {PostX : Pt → Array Value → Addr → Pt → Prop} (hK : vx_Back l R p e below s args y 3 W9 Pre Post PostX)
    {g : JFrame} (hg : g.method = m) (hsize : g.locals.size = c.maxLocals) {argsL rest : List Value} (hlen : ∀ sig, parseMethodDescriptor y.desc = some sig → argsL.length = sig.parameters.length)
    (hstack : g.stack = argsL.reverse ++ rest) (hW : 2 * g.monitorRoom + (rest.map fun v => v.category).sum ≤ W9) (hdg : decode c.code g.pc = .ok (.invokestatic index, 3))
    (hpre : ∀ vm₁, s.WarmedH vm₁ → Pre ⟨T.setVm vm₁, locs, cells, slots⟩ argsL.toArray) :
    (∃ (v : Option Value) (vm₁ : Vm) (B : Pt), s.WarmedH vm₁ ∧ Stand p l e R s m args below meth c B.U B.locs B.cells B.slots ∧ Post ⟨T.setVm vm₁, locs, cells, slots⟩ argsL.toArray v B ∧
      ∀ target, Steps p.tables e below (B.U.setTop { g with pc := g.pc + 3, stack := v.toList ++ rest }) target → Steps p.tables e below (T.setTop g) target) ∨
    (∃ (q : Addr) (vm₁ : Vm) (B : Pt), s.WarmedH vm₁ ∧ Stand p l e R s m args below meth c B.U B.locs B.cells B.slots ∧ PostX ⟨T.setVm vm₁, locs, cells, slots⟩ argsL.toArray q B ∧
      Steps p.tables e below (T.setTop g) ((B.U.setTop { g with stack := rest }).pushFrame (.throwing q))) := by
  obtain ⟨mk, methM, cM, hnamed, hmethM, -, -, -, -, -, -, hsigM⟩ := Cond.codeWith_spec hcode
  have hstatic : methM.isStatic = true := Cond.static_spec hnamed hmethM hstat
  obtain ⟨kP, hkP, -⟩ := className_of_methodNamed hnamed
  have hinitP : kP.init = .initialized := Cond.initialized_spec (findClass_of_methodNamed hnamed) hkP hinit
  obtain ⟨vm₁, X₁, hstep₁⟩ := X.invokestatic hexec hown hlink hnamed hmethM hstatic hkP hinitP hy (g := g) hg (argsL := argsL) (rest := rest) (hlen _ hsigM) hstack hdg
  rcases hK m meth c ⟨T.setVm vm₁, locs, cells, slots⟩ { g with stack := rest } (.invokestatic index) mk argsL.toArray X₁ hg hsize hdg hW (X₁.named hnamed) (hpre vm₁ X₁.warmed) with ⟨v, B, X', hpost, hsteps⟩ | ⟨q, B, X', hpost, hsteps⟩
  · exact Or.inl ⟨v, vm₁, B, X₁.warmed, X', hpost, fun target h => hstep₁ _ fun acts => by rw [doInvoke_state]; exact hsteps.trans h⟩
  · exact Or.inr ⟨q, vm₁, B, X₁.warmed, X', hpost, hstep₁ _ fun acts => by rw [doInvoke_state]; exact hsteps⟩
theorem vx_callVW (X : Stand p l e R s m args below meth c T locs cells slots) (hexec : p.tables.exec = Jvm.exec) {own C : String} {index : Nat} {y : MethodName} {bytes : ByteArray} {maxL : Nat} {ret : Option FieldType} {hh : List (Nat × Nat × Nat × Nat)}
    (hown : s.vm.findClass own = some m.cls) (hlink : (Cond.methodLink own index y).before args s = true) (hinst : (Cond.instanceMethod y).before args s = true) (hsel : (Cond.selects C y y).before args s = true)
    (hcode : (Cond.codeWith y bytes maxL ret hh).before args s = true) (hy : y.cls ≠ "java/lang/invoke/MethodHandle" ∧ y.cls ≠ "java/lang/invoke/VarHandle")
    {W9 : Nat} {Pre : Pt → Array Value → Prop} {Post : Pt → Array Value → Option Value → Pt → Prop} (hK : Back l R p e below s args y 3 W9 Pre Post)
    {b : Addr} {cellB : Cell} (hcell : T.heap[b]? = some cellB) (hobj : cellB.vm.isStatics = false) (hcls : s.vm.findClass C = some cellB.cls)
    {g : JFrame} (hg : g.method = m) (hsize : g.locals.size = c.maxLocals) {argsL rest : List Value} (hlen : ∀ sig, parseMethodDescriptor y.desc = some sig → argsL.length = sig.parameters.length)
    (hstack : g.stack = argsL.reverse ++ .ref b :: rest) (hW : 2 * g.monitorRoom + (rest.map fun v => v.category).sum ≤ W9) (hdg : decode c.code g.pc = .ok (.invokevirtual index, 3))
    (hpre : ∀ vm₁, s.WarmedH vm₁ → Pre ⟨T.setVm vm₁, locs, cells, slots⟩ (Value.ref b :: argsL).toArray) :
    ∃ (v : Option Value) (vm₁ : Vm) (B : Pt), s.WarmedH vm₁ ∧ Stand p l e R s m args below meth c B.U B.locs B.cells B.slots ∧ Post ⟨T.setVm vm₁, locs, cells, slots⟩ (Value.ref b :: argsL).toArray v B ∧
      ∀ target, Steps p.tables e below (B.U.setTop { g with pc := g.pc + 3, stack := v.toList ++ rest }) target → Steps p.tables e below (T.setTop g) target := by
  obtain ⟨mk, methM, hnamed, hmethM, hstM, habM⟩ := Cond.instanceMethod_spec hinst
  obtain ⟨m8, methM', cM, hn8, hmethM', -, -, -, -, -, -, hsigM⟩ := Cond.codeWith_spec hcode
  cases Option.some.inj (hn8.symm.trans hnamed)
  cases hmethM.symm.trans hmethM'
  obtain ⟨c2, r2, m2, q1, q2, q3, q4, kP, hkP, hkPi⟩ := Cond.selects_spec hsel
  cases hcls.symm.trans q1
  cases (State.methodFound?_of_named hnamed hy).symm.trans q2
  cases hnamed.symm.trans q3
  have hselP : selectMethod e.platform s.vm cellB.cls mk = .method mk := by rw [Launch.admits_selectMethod X.admits]; exact q4
  obtain ⟨vm₁, X₁, hstep₁⟩ := X.invokevirtual hexec hown hlink hnamed hmethM hstM hkP hkPi hy (a := b) (cell := cellB) hcell
    (fun z h => by rw [h] at hobj; cases hobj) hselP hmethM habM hkP hkPi (g := g) hg (argsL := argsL) (rest := rest) (hlen _ hsigM) hstack hdg
  obtain ⟨v, B, X', hpost, hsteps⟩ := hK m meth c ⟨T.setVm vm₁, locs, cells, slots⟩ { g with stack := rest } (.invokevirtual index) mk (Value.ref b :: argsL).toArray X₁ hg hsize hdg hW (X₁.named hnamed) (hpre vm₁ X₁.warmed)
  exact ⟨v, vm₁, B, X₁.warmed, X', hpost, fun target h => hstep₁ _ fun acts => by rw [doInvoke_state]; exact hsteps.trans h⟩
abbrev vx_CVW (R : Room) (s : State) (args : Array Value) (own C : String) (index : Nat) (y : MethodName) (bytes : ByteArray) (maxL : Nat) (ret : Option FieldType) (hh : List (Nat × Nat × Nat × Nat)) (ws : List Cond) (rm : Room) (mc ms n : Nat) : Prop :=
  (rm.cells = mc ∧ rm.slots = ms ∧ rm.frames + 1 ≤ R.frames ∧ 8 + (maxL + 11) + rm.locals ≤ R.locals ∧ (∀ w ∈ ws, ∀ (a' : Array Value) (U : State), s.WarmedH U.vm → w.before a' U = true) ∧ Cond.codeWith y bytes maxL ret hh ∈ ws) ∧
  (Cond.codeWith y bytes maxL ret hh).before args s = true ∧ (Cond.initialized y.cls).before args s = true ∧ (y.cls ≠ "java/lang/invoke/MethodHandle" ∧ y.cls ≠ "java/lang/invoke/VarHandle") ∧
  (∀ sig, parseMethodDescriptor y.desc = some sig → n = sig.parameters.length) ∧ (Cond.methodLink own index y).before args s = true ∧ (Cond.instanceMethod y).before args s = true ∧ (Cond.selects C y y).before args s = true
theorem vx_cwVW {own C : String} {index maxL mc ms : Nat} {y : MethodName} {bytes : ByteArray} {ret : Option FieldType} {hh : List (Nat × Nat × Nat × Nat)} {Ts ws ws' : List Cond} {rm : Room} (n : Nat) (ht : ∀ w ∈ Ts, w.before args s = true) (hT : GoodIn Ts (wsV own index C y ws)) (hw : ws = Cond.codeWith y bytes maxL ret hh :: ws') (hrc : rm.cells = mc) (hrs : rm.slots = ms)
    (hd : y.cls = C ∧ y.cls ≠ "java/lang/invoke/MethodHandle" ∧ y.cls ≠ "java/lang/invoke/VarHandle" ∧ (parseMethodDescriptor y.desc).map (fun d => d.parameters.length) = some n) (hR : rm.frames + 1 ≤ R.frames ∧ 8 + (maxL + 11) + rm.locals ≤ R.locals) :
    vx_CVW R s args own C index y bytes maxL ret hh ws rm mc ms n := by
  obtain ⟨hC, hd⟩ := hd
  subst hC
  have ok : ∀ w ∈ wsV own index y.cls y ws, w.before args s = true := fun w h => ht w (hT w h).1
  have hG : GoodIn Ts ws := fun w h => hT w (by unfold wsV; exact List.mem_append_right _ h)
  have hc : Cond.codeWith y bytes maxL ret hh ∈ ws := by rw [hw]; exact List.mem_cons_self
  refine ⟨⟨hrc, hrs, hR.1, hR.2, pay_in ht hG, hc⟩, ht _ (hG _ hc).1, ok _ (by simp [wsV]), ⟨hd.1, hd.2.1⟩, fun sig h => ?_, ok _ (by simp [wsV]), ok _ (by simp [wsV]), ok _ (by simp [wsV])⟩
  have h2 := hd.2.2
  rw [h] at h2
  exact (Option.some.inj h2).symm
theorem vx_runVW {y : MethodName} {bytes cc : ByteArray} {maxL nL mc ms n index : Nat} {ret : Option FieldType} {hh : List (Nat × Nat × Nat × Nat)} {ws : List Cond} {rm : Room} {Pc : Array Value → State → Prop} {Qc : Array Value → State → Outcome → State → Prop} {free : Addr → Prop} {Ts : List Cond} {own C : String} {b : Addr} {As rest : List Value} {g : JFrame}
    (S : CallFix p m c cc nL s args Ts own) (hM : Met l y ws rm Pc Qc mc ms free) (cw : vx_CVW R s args own C index y bytes maxL ret hh ws rm mc ms n) (hp : PreV s H C b Pc As)
    (hg : g.method = m) (hn : As.length = n) (hsize : g.locals.size = nL) (hstack : g.stack = As.reverse ++ .ref b :: rest) (hW : 2 * g.monitorRoom + (rest.map fun v => v.category).sum ≤ 8) (hdg : decode cc g.pc = .ok (.invokevirtual index, 3)) (hf : cells + mc ≤ R.cells ∧ slots + ms ≤ R.slots) :
    va_Run p l e R s m args below meth c H locs cells slots mc ms g rest (Qc (Value.ref b :: As).toArray) free := by
  obtain ⟨⟨hrc, hrs, hfr, hlo, hws, hcw⟩, hcode, hini, hy, hlen, hl, hin, hse⟩ := cw
  have hK : Back l R p e below s args y 3 8 (PreOf R mc ms Pc) (PostOf Qc mc ms free) := va_backW (hh := hh) (bytes := bytes) (maxL := maxL) (ret := ret) hM hp.1 hrc hrs hfr hlo hws hcw (fun a' U hW => word_at hW (Or.inl (by first | rfl | simp [Cond.onTables, Cond.keeps, Cond.steady])) hini)
  obtain ⟨hx, hb, hml, ho, -⟩ := S
  obtain ⟨-, ⟨cellB, hcB, hoB, hclB⟩, hPc⟩ := hp
  intro T hT X
  obtain ⟨v, vm₁, ⟨U', l2, c2, s2⟩, hW₁, X', ⟨g', mk, t, L, e1, e2, hq, h1, hL, h2, h3⟩, st⟩ := vx_callVW X hx (C := C) (hh := hh) (bytes := bytes) (maxL := maxL) (ret := ret) ho hl hin hse hcode hy hK (by rw [hT]; exact hcB) hoB hclB hg (hsize.trans hml.symm) (argsL := As) (rest := rest) (fun sig h => hn.trans (hlen sig h)) hstack hW (by rw [hb]; exact hdg)
    (fun vm₁ hW₁ => ⟨hf.1, hf.2, hPc (T.setVm vm₁) hT hW₁⟩)
  dsimp only [Pt.U, Pt.locs, Pt.cells, Pt.slots] at X' e1 e2 h1 h2 h3 st
  subst h1; subst h2; subst h3
  exact ⟨v, (T.setVm vm₁).calling g' mk (Value.ref b :: As).toArray, t, U', L, hT, X', hL, e1, e2, hq, st⟩
section
variable {y : MethodName} {bytes cc : ByteArray} {maxL nL mc ms n index : Nat} {ret : Option FieldType} {ws : List Cond} {rm : Room} {Pc : Array Value → State → Prop} {Qc : Array Value → State → Outcome → State → Prop} {XC : String → State → State → Prop} {free : Addr → Prop} {Ts : List Cond} {own C : String} {b : Addr} {As rest : List Value} {g : JFrame}
theorem vx_runVX {hh : List (Nat × Nat × Nat × Nat)} (S : CallFix p m c cc nL s args Ts own) (hM : vx_Met l y ws rm Pc Qc XC mc ms free) (cw : vx_CVW R s args own C index y bytes maxL ret hh ws rm mc ms n) (hp : PreV s H C b Pc As)
    (hg : g.method = m) (hn : As.length = n) (hsize : g.locals.size = nL) (hstack : g.stack = As.reverse ++ .ref b :: rest) (hW : 2 * g.monitorRoom + (rest.map fun v => v.category).sum ≤ 8) (hdg : decode cc g.pc = .ok (.invokevirtual index, 3)) (hf : cells + mc ≤ R.cells ∧ slots + ms ≤ R.slots) :
    vx_Run p l e R s m args below meth c H locs cells slots mc ms g rest (Qc (Value.ref b :: As).toArray) XC free := by
  obtain ⟨⟨hrc, hrs, hfr, hlo, hws, hcw⟩, hcode, hini, hy, hlen, hl, hin, hse⟩ := cw
  have hK : vx_Back l R p e below s args y 3 8 (PreOf R mc ms Pc) (PostOf Qc mc ms free) (vx_Post XC mc ms free) := vx_backW (hh := hh) (bytes := bytes) (maxL := maxL) (ret := ret) hM hp.1 hrc hrs hfr hlo hws hcw (fun a' U hW => word_at hW (Or.inl (by first | rfl | simp [Cond.onTables, Cond.keeps, Cond.steady])) hini)
  obtain ⟨hx, hb, hml, ho, -⟩ := S
  obtain ⟨-, ⟨cellB, hcB, hoB, hclB⟩, hPc⟩ := hp
  intro T hT X
  rcases vx_callVX X hx (C := C) (hh := hh) (bytes := bytes) (maxL := maxL) (ret := ret) ho hl hin hse hcode hy hK (by rw [hT]; exact hcB) hoB hclB hg (hsize.trans hml.symm) (argsL := As) (rest := rest) (fun sig h => hn.trans (hlen sig h)) hstack hW (by rw [hb]; exact hdg)
    (fun vm₁ hW₁ => ⟨hf.1, hf.2, hPc (T.setVm vm₁) hT hW₁⟩) with ⟨v, vm₁, ⟨U', l2, c2, s2⟩, hW₁, X', ⟨g', mk, t, L, e1, e2, hq, h1, hL, h2, h3⟩, st⟩ | ⟨q, vm₁, ⟨U', l2, c2, s2⟩, hW₁, X', ⟨g', mk, t, L, E, ce, e1, e2, hq, hce, hcv, hcl, h1, hL, h2, h3⟩, st⟩
  · dsimp only [Pt.U, Pt.locs, Pt.cells, Pt.slots] at X' e1 e2 h1 h2 h3 st
    subst h1; subst h2; subst h3
    exact Or.inl ⟨v, (T.setVm vm₁).calling g' mk (Value.ref b :: As).toArray, t, U', L, hT, X', hL, e1, e2, hq, st⟩
  · dsimp only [Pt.U, Pt.locs, Pt.cells, Pt.slots] at X' e1 e2 h1 h2 h3 st hcl
    subst h1; subst h2; subst h3
    exact Or.inr ⟨q, (T.setVm vm₁).calling g' mk (Value.ref b :: As).toArray, t, U', L, E, ce, hT, X', hL, e1, e2, hq, hce, hcv, vx_cls hW₁ hcl, st⟩
theorem vx_runSX {hh : List (Nat × Nat × Nat × Nat)} (S : CallFix p m c cc nL s args Ts own) (hM : vx_Met l y ws rm Pc Qc XC mc ms free) (cw : vx_CSW R s args own index y bytes maxL ret hh ws rm mc ms n) (hp : PreS s H Pc As)
    (hg : g.method = m) (hn : As.length = n) (hsize : g.locals.size = nL) (hstack : g.stack = As.reverse ++ rest) (hW : 2 * g.monitorRoom + (rest.map fun v => v.category).sum ≤ 8) (hdg : decode cc g.pc = .ok (.invokestatic index, 3)) (hf : cells + mc ≤ R.cells ∧ slots + ms ≤ R.slots) :
    vx_Run p l e R s m args below meth c H locs cells slots mc ms g rest (Qc As.toArray) XC free := by
  obtain ⟨⟨hrc, hrs, hfr, hlo, hws, hcw⟩, hcode, hini, hy, hlen, hl, hstt⟩ := cw
  have hK : vx_Back l R p e below s args y 3 8 (PreOf R mc ms Pc) (PostOf Qc mc ms free) (vx_Post XC mc ms free) := vx_backW (hh := hh) (bytes := bytes) (maxL := maxL) (ret := ret) hM hp.1 hrc hrs hfr hlo hws hcw (fun a' U hW => word_at hW (Or.inl (by first | rfl | simp [Cond.onTables, Cond.keeps, Cond.steady])) hini)
  obtain ⟨hx, hb, hml, ho, -⟩ := S
  intro T hT X
  rcases vx_callSX X hx (hh := hh) (bytes := bytes) (maxL := maxL) (ret := ret) ho hl hstt hini hcode hy hK hg (hsize.trans hml.symm) (argsL := As) (rest := rest) (fun sig h => hn.trans (hlen sig h)) hstack hW (by rw [hb]; exact hdg)
    (fun vm₁ hW₁ => ⟨hf.1, hf.2, hp.2 (T.setVm vm₁) hT hW₁⟩) with ⟨v, vm₁, ⟨U', l2, c2, s2⟩, hW₁, X', ⟨g', mk, t, L, e1, e2, hq, h1, hL, h2, h3⟩, st⟩ | ⟨q, vm₁, ⟨U', l2, c2, s2⟩, hW₁, X', ⟨g', mk, t, L, E, ce, e1, e2, hq, hce, hcv, hcl, h1, hL, h2, h3⟩, st⟩
  · dsimp only [Pt.U, Pt.locs, Pt.cells, Pt.slots] at X' e1 e2 h1 h2 h3 st
    subst h1; subst h2; subst h3
    exact Or.inl ⟨v, (T.setVm vm₁).calling g' mk As.toArray, t, U', L, hT, X', hL, e1, e2, hq, st⟩
  · dsimp only [Pt.U, Pt.locs, Pt.cells, Pt.slots] at X' e1 e2 h1 h2 h3 st hcl
    subst h1; subst h2; subst h3
    exact Or.inr ⟨q, (T.setVm vm₁).calling g' mk As.toArray, t, U', L, E, ce, hT, X', hL, e1, e2, hq, hce, hcv, vx_cls hW₁ hcl, st⟩
end
end VXH
theorem vx_ofWH {l : Launch} {y : MethodName} {ws ws' : List Cond} {rm : Room} {Pc : Array Value → State → Prop} {Qc : Array Value → State → Outcome → State → Prop} {XC : String → State → State → Prop} {mc ms : Nat} {free : Addr → Prop} {cc : ByteArray} {maxL : Nat} {ret : Option FieldType} {hh : List (Nat × Nat × Nat × Nat)}
    (hy : plainName y.cls = true) (hw : ws = Cond.codeWith y cc maxL ret hh :: ws')
    (body : ∀ p e s m args below meth c s₁, BodyLoose p l y (headSpec ws rm) cc maxL ret e s m args below meth c s₁ → c.maxLocals = maxL → Pc args s →
      W p l e (headSpec ws rm).room s m args below meth c s.heap [] 0 0 (vx_MQ below Qc XC args s mc ms free) (entryFrame m args maxL)) : vx_Met l y ws rm Pc Qc XC mc ms free := by
  refine MetFree.of_bodyS (code := cc) (maxLocals := maxL) (ret := ret) hy ?_ ?_
  · intro args s m h hn
    obtain ⟨m9, meth, c, hn9, h1, h2, h3, h4, -, h5, h6, -⟩ := Cond.codeWith_spec (atoms_spec (ws := ws) h _ (by rw [hw]; exact List.mem_cons_self))
    cases hn.symm.trans hn9
    exact ⟨meth, c, h1, h2, h3, h4, h5, h6⟩
  · intro p e s m args below meth c s₁ B hml hP _
    have hh0 : s₁.heap = s.heap := by rw [B.state]; rfl
    obtain ⟨t, a1, o, b1, b2, b3⟩ := body p e s m args below meth c s₁ B hml hP s₁ hh0 (Stand.of_body B)
    exact ⟨t, o, a1, b1, b2, b3⟩
/-! ===== END ===== -/
/-! ===== BEGIN what the machine throws by itself, no traces kept ===== -/
section VXM
set_option maxHeartbeats 1000000 in
/-- the machine throws cls with the message text, no traces kept: from its note over the frame g to 'throwing' over the same frame (follows the proofs of Stand.vmThrowsMessage, Shelf/KitTracedVmS.lean, and Stand.throwsMessageColdBareV, StandMessageColdV.lean, without the step out of the frame) -/
theorem vx_vmAt {p : Program} {l : Launch} {e : Env} {R : Room} {s : State} {m₀ : MethodId} {args : Array Value} {below : List Frame} {meth : Method} {c : Code} {W : State} {locs : List Loc} {cells slots : Nat}
    (X : Stand p l e R s m₀ args below meth c W locs cells slots) (hexec : p.tables.exec = Jvm.exec) (htr : e.platform.stackTraces = false) {cls : String} {names : List String} {text : String}
    (hcls : Bundle.fit cls = true) (hnames : ∀ n ∈ names, Bundle.fit n = true) (hsoe : (cls == "java/lang/StackOverflowError") = false) (hoom : (cls == "java/lang/OutOfMemoryError") = false)
    (h : ∀ a ∈ Bundle.messageArmAtoms cls names, a.before args s = true)
    (hlocs : ∀ x ∈ locs, ∀ cell, s.heap[x.base]? = some cell → cell.vm.isStatics = false)
    (htext : (text == notModelled) = false) (hlimit : ¬ (stringBytes (stringToUtf16 text)).size > e.platform.arrayLengthLimit) (hheap : ¬ (stringBytes (stringToUtf16 text)).size * componentBytes .byte > e.platform.maxHeapBytes)
    {g : JFrame} (hg : g.method = m₀) (hsize : g.locals.size = c.maxLocals)
    (hRframes : names.length + 4 < R.frames) (hRlocals : 2 * g.monitorRoom + (g.stack.map fun v => v.category).sum + 10240 ≤ R.locals) (hshort : 13 * names.length + 55 ≤ 10240)
    (hRcells : cells + 3 ≤ R.cells) (hRslots : slots + ((stringBytes (stringToUtf16 text)).size + 4 + 6) ≤ R.slots) (hlocks : meth.locks = false) :
    ∃ (S : State) (q : Addr) (ce : Cell), (∀ target, Steps p.tables e below ((S.setTop g).pushFrame (.throwing q)) target → Steps p.tables e below ((W.setTop g).pushFrame (.throwNew cls (some text) none)) target) ∧
      Stand p l e R s m₀ args below meth c S locs (cells + 3) (slots + ((stringBytes (stringToUtf16 text)).size + 4 + 6)) ∧ S.heap[q]? = some ce ∧ s.vm.findClass cls = some ce.cls ∧ ce.vm = .none := by
  have howns : e.platform.frameOwnsMonitors = true := by rw [X.admits.platform]
  have hfin : e.platform.finalization = false := by rw [X.admits.platform]
  have hpl : e.platform.magicAccessors = ({} : Platform).magicAccessors := by rw [X.admits.platform]
  have a : ∀ x, x ∈ Bundle.messageArmAtoms cls names → x.holds args s none s [] = true := fun x hx => h x hx
  obtain ⟨T, Z0, L, -, Y⟩ := ThrowableC.of_atoms (args := args) howns hfin hpl (fun x hx => h x (by simp [Bundle.messageArmAtoms, hx]))
  obtain ⟨Z, M, LZ, LM, hnZ⟩ := Init0T.ofS_atoms (args := args) hpl L Y (fun x hx => h x (by simp [Bundle.messageArmAtoms, hx]))
  obtain ⟨P1, Ps, hlen, L1, hL, hP1m, hlink1, hlink⟩ := Bundle.chainS (args := args) hpl hnZ names cls hcls hnames (fun x hx => h x (by simp [Bundle.messageArmAtoms, hx]))
  obtain ⟨Zs, LZs, hn4, hfitv, hfitc⟩ := StringT.of_atoms (args := args) (fun x hx => h x (by simp [Bundle.messageArmAtoms, hx]))
  have hfound : s.vm.findClass cls = some P1.m.cls := findClass_of_methodNamed hP1m
  obtain ⟨c1, kX, hc1, hk, hord, -, -, hn6⟩ := Cond.instantiable_spec (a (.instantiable cls 6) (by simp [Bundle.messageArmAtoms]))
  cases Option.some.inj (hc1.symm.trans hfound)
  have hinit := Cond.initialized_spec hfound hk (a (.initialized cls) (by simp [Bundle.messageArmAtoms]))
  have hctor : kX.findMethod "<init>" "(Ljava/lang/String;)V" = some P1.m.idx := findMethod_of_methodNamed hP1m hk
  have hsel0 : selectMethod e.platform s.vm P1.m.cls T.fill0 = .method T.fill0 := by
    obtain ⟨c2, r2, m2, q1, q2, q3, q4, -⟩ := Cond.selects_spec (a (.selects cls Bundle.tFill0 Bundle.tFill0) (by simp [Bundle.messageArmAtoms]))
    cases Option.some.inj (q1.symm.trans hfound)
    cases Option.some.inj (q2.symm.trans (State.methodFound?_of_named Y.fill0 (by decide)))
    cases Option.some.inj (q3.symm.trans Y.fill0)
    rw [Launch.admits_selectMethod X.admits]; exact q4
  have hselF : selectMethod e.platform s.vm P1.m.cls T.fill = .method T.fill := by
    obtain ⟨c2, r2, m2, q1, q2, q3, q4, -⟩ := Cond.selects_spec (a (.selects cls Bundle.tFill Bundle.tFill) (by simp [Bundle.messageArmAtoms]))
    cases Option.some.inj (q1.symm.trans hfound)
    cases Option.some.inj (q2.symm.trans (State.methodFound?_of_named Y.fill (by decide)))
    cases Option.some.inj (q3.symm.trans Y.fill)
    rw [Launch.admits_selectMethod X.admits]; exact q4
  obtain ⟨cellS0, hcS0, hiss⟩ := Y.statics
  obtain ⟨u0, hu0⟩ := Cond.staticRefV Y.unassigned L.unassignedStatic L.statics hcS0 hiss (a (.isRef (.static Bundle.tN "UNASSIGNED_STACK" Bundle.steD)) (by simp [Bundle.messageArmAtoms]))
  obtain ⟨sen, hsen⟩ := Cond.staticRefV Y.sentinel L.sentinelStatic L.statics hcS0 hiss (a (.isRef (.static Bundle.tN "SUPPRESSED_SENTINEL" Bundle.listD)) (by simp [Bundle.messageArmAtoms]))
  obtain ⟨ci198, i198, fB, hk198, hg198, ha198, hsB, -, hnB, htB, hffB⟩ := Cond.ownField (t := .object "java/lang/Object") Y.found L.cls (by decide +kernel) (a (.fieldLink Bundle.tN 198 Bundle.tN "backtrace" "Ljava/lang/Object;") (by simp [Bundle.messageArmAtoms])) (a (.lays Bundle.tN Bundle.tN "backtrace" "Ljava/lang/Object;") (by simp [Bundle.messageArmAtoms])) e.platform hpl
  obtain ⟨cellS, hcS', heS, -, hkeep⟩ := X.same.2.2.2.2.2 T.aS cellS0 hcS0
  have hcellS : W.heap[T.aS]? = some cellS := hcS'
  have hout' : ∀ i, (⟨T.aS, i⟩ : Loc) ∉ locs := fun i hmem => by
    have := hlocs _ hmem cellS0 hcS0
    rw [hiss] at this; cases this
  have hknownS : cellS.vm ≠ .unknown := by
    rw [heS]; intro hu
    rw [show cellS0.vm = .unknown from hu] at hiss
    cases hiss
  have hvU : cellS.slots[T.fUnassigned.slot]? = some u0.v := by rw [hkeep _ (hout' _)]; exact hu0
  have hvSen : cellS.slots[T.fSentinel.slot]? = some sen.v := by rw [hkeep _ (hout' _)]; exact hsen
  obtain ⟨iM, hffM⟩ := Y.msg
  obtain ⟨tyC, dC, hdC, hdnC⟩ := Cond.laysAt hfound hk Y.cause (a (.lays cls Bundle.tN "cause" "Ljava/lang/Throwable;") (by simp [Bundle.messageArmAtoms]))
  obtain ⟨tyS, dS, hdS, hdnS⟩ := Cond.laysAt hfound hk Y.stack (a (.lays cls Bundle.tN "stackTrace" Bundle.steD) (by simp [Bundle.messageArmAtoms]))
  obtain ⟨tyP, dP, hdP, hdnP⟩ := Cond.laysAt hfound hk Y.supp (a (.lays cls Bundle.tN "suppressedExceptions" Bundle.listD) (by simp [Bundle.messageArmAtoms]))
  obtain ⟨tyM, dM, hdM, hdnM⟩ := Cond.laysAt hfound hk hffM (a (.lays cls Bundle.tN "detailMessage" "Ljava/lang/String;") (by simp [Bundle.messageArmAtoms]))
  obtain ⟨tyB, dB, hdB, hdnB⟩ := Cond.laysAt hfound hk hffB (a (.lays cls Bundle.tN "backtrace" "Ljava/lang/Object;") (by simp [Bundle.messageArmAtoms]))
  have bC := Cond.laysApart hdB hdC hdnB hdnC (by rw [hnB, Y.causeName]; decide)
  have bS := Cond.laysApart hdB hdS hdnB hdnS (by rw [hnB, Y.stackName]; decide)
  have bP := Cond.laysApart hdB hdP hdnB hdnP (by rw [hnB, Y.suppName]; decide)
  have hbk : ((preparedCellV T.toThrowableT (freshCell P1.m.cls kX) (W.heap.size + 2) u0 sen).withEntry W.cur).slots[fB.slot]? = some .null := by
    have := fresh_default (c := P1.m.cls) tyB
    rw [htB] at this
    simpa [preparedCellV, Cell.setSlot, Cell.withEntry, Array.getElem?_setIfInBounds, bC, bS, bP, bC.symm, bS.symm, bP.symm, defaultValue] using this
  have tkC := Takes.of_laid (v := .ref (W.heap.size + 2)) hk hord tyC (by rw [Y.causeType]; rfl)
  have tkS := Takes.of_laid (v := u0.v) hk hord tyS (by rw [Y.stackType]; exact fits_refV_array _ u0)
  have tkP := Takes.of_laid (v := sen.v) hk hord tyP (by rw [Y.suppType]; exact fits_refV_object _ sen)
  have tkM := Takes.of_laid (v := .ref (W.heap.size + 1)) hk hord tyM (by rw [Y.msgType]; rfl)
  have hskip : SkipFacts T e.platform s (fun u => u) u0 ((preparedCellV T.toThrowableT (freshCell P1.m.cls kX) (W.heap.size + 2) u0 sen).withEntry W.cur) := ⟨{ ci198 := ci198, i198 := i198, fBack := fB }, ⟨hk198, hg198, ha198, hsB⟩, hbk, fun _ _ => rfl⟩
  have h0 : At W g.method c below := by rw [hg]; exact X.here
  obtain ⟨hbeyond, hfreeW⟩ := X.vmMayThrow hsize (.throwNew cls (some text) none) (fun f hf => by cases hf) rfl hRlocals
  have hfr' : W.frames.length + Ps.length + 4 < (e.platform.stackLimits W.me).1 := by have := X.framesAbove hRframes; omega
  have hwd' : (stackUse (.java g :: W.frames.tail)).2 + 13 * Ps.length + 55 ≤ (e.platform.stackLimits W.me).2 := by have := X.stackAbove hsize (K := 13 * Ps.length + 55) (by omega); omega
  have hslots : W.slotsUsed + (stringBytes (stringToUtf16 text)).size + Zs.kS.instanceTypes.size + kX.instanceTypes.size ≤ e.platform.maxSlots := by
    have := X.slotsAbove hRslots
    rw [hn4, hn6]
    omega
  obtain ⟨vm', hW', st⟩ := Steps.vmThrowsMessageColdByV p (s₀ := s) (S := W) (g := g) h0 hexec T L Z LZ M LM X.warmed (t := W.cur) rfl Zs LZs P1 L1 Ps hL hlink1 hlink hsoe hoom hfound hk hinit hord hctor
    (Launch.admits_hotImplicitExceptions X.admits) hbeyond hfreeW htext hlimit hheap (X.cellsAbove hRcells) hslots (hfitv _) (hfitc _)
    (Nn := fun u => u) heapOnly_id (fun _ _ => rfl) (fun _ => rfl) (fun u x y => setCell_twice _ _ _ _) (fun _ => Nat.le_refl _) (cN := ((preparedCellV T.toThrowableT (freshCell P1.m.cls kX) (W.heap.size + 2) u0 sen).withEntry W.cur))
    hsel0 hcellS hknownS hvU tkS (fun _ hu => hu) (fun _ hu => hu) rfl rfl rfl (by simp [preparedCellV, Cell.setSlot, Cell.withEntry]) hskip (fun _ _ hA hW _ hroom _ hrest => L.nativeOff p htr hA hW hroom hrest) hselF hvSen tkC tkP tkM Y.objLocals rfl hfr' hwd'
  rw [plainBareV_eq T.toThrowableT (W.heap.size + 2) u0 sen (.ref (W.heap.size + 1)) W.cur rfl rfl] at st
  obtain ⟨-, -, w3, w4, -, -, -⟩ := withThrown_facts e.platform W Zs text P1.m.cls kX
  have X3 := ((X.pushed (bytesOf Zs.cB (stringToUtf16 text))).pushed (stringAt Zs.cS Zs.kS Zs.fv Zs.fc (stringToUtf16 text) W.heap.size)).pushed (freshCell P1.m.cls kX)
  rw [← withString_eq] at X3
  have X4 := X3.noted hW'
  have ha : (W.heap.size + 2) < ((withThrown W Zs text P1.m.cls kX).setVm vm').heap.size := by show _ < (withThrown W Zs text P1.m.cls kX).heap.size; rw [w3]; omega
  have hcell : ((withThrown W Zs text P1.m.cls kX).setVm vm').heap[(W.heap.size + 2)]? = some (freshCell P1.m.cls kX) := w4
  have X5 := ((((X4.stored hcell T.fCause.slot (.ref (W.heap.size + 2))).storedAgain ha T.fStack.slot u0.v).storedAgain ha T.fSupp.slot sen.v).storedAgain ha T.fStack.slot u0.v).storedAgain ha T.fMsg.slot (.ref (W.heap.size + 1))
  obtain ⟨g₁, hfrM⟩ := X5.frames_eq
  have hU : ((((withThrown W Zs text P1.m.cls kX).setVm vm').setCell (W.heap.size + 2) (plainBareV T.toThrowableT (freshCell P1.m.cls kX) (W.heap.size + 2) u0 sen (.ref (W.heap.size + 1)))).setTop g).pushFrame (.throwing (W.heap.size + 2)) = (((withThrown W Zs text P1.m.cls kX).setVm vm').setCell (W.heap.size + 2) (plainBareV T.toThrowableT (freshCell P1.m.cls kX) (W.heap.size + 2) u0 sen (.ref (W.heap.size + 1)))).setFrames (.throwing (W.heap.size + 2) :: .java g :: below) := by
    rw [State.pushFrame, State.frames_setTop _ hfrM, State.setTop_of_frames _ hfrM, State.setFrames_setFrames]
  have b1 : (bytesOf Zs.cB (stringToUtf16 text)).slots.size = (stringBytes (stringToUtf16 text)).size := by
    rw [(Cell.writeAll_facts _ _).2.2]; simp [bytes0]
  have b2 : (stringAt Zs.cS Zs.kS Zs.fv Zs.fc (stringToUtf16 text) W.heap.size).slots.size = 4 := by simp [string0, Cell.setSlot, hn4]
  have b3 : (freshCell P1.m.cls kX).slots.size = 6 := by simp [hn6]
  rw [b1, b2, b3] at X5
  have e9 : slots + (stringBytes (stringToUtf16 text)).size + 4 + 6 = slots + ((stringBytes (stringToUtf16 text)).size + 4 + 6) := by omega
  rw [e9] at X5
  simp only [List.append_assoc, List.cons_append, List.nil_append] at X5
  refine ⟨((withThrown W Zs text P1.m.cls kX).setVm vm').setCell (W.heap.size + 2) (plainBareV T.toThrowableT (freshCell P1.m.cls kX) (W.heap.size + 2) u0 sen (.ref (W.heap.size + 1))), W.heap.size + 2, _, fun target ht => st _ (by rw [X.tail, ← hU]; exact ht),
    X5.forget (fun y hy => ?_), heapAt_setCell_self _ ha, hfound, rfl⟩
  simp only [List.mem_cons, List.not_mem_nil, or_false] at hy
  have hge : s.heap.size ≤ W.heap.size := X.same.2.1
  rcases hy with rfl | rfl | rfl | rfl | rfl <;> exact Nat.le_trans hge (Nat.le_add_right _ 2)
set_option maxHeartbeats 1000000 in
/-- the machine throws NullPointerException, no traces kept: from its note over the frame g to 'throwing' over the same frame (follows the proof of Stand.vmThrowsNpe, Shelf42/KT2.lean; throwsNpeColdBareVAt, Shelf42/NT91.lean, called) -/
theorem vx_npeAt {p : Program} {l : Launch} {e : Env} {R : Room} {s : State} {m₀ : MethodId} {args : Array Value} {below : List Frame} {meth : Method} {c : Code} {W : State} {locs : List Loc} {cells slots : Nat}
    (X : Stand p l e R s m₀ args below meth c W locs cells slots) (hexec : p.tables.exec = Jvm.exec) (htr : e.platform.stackTraces = false) {n : Nat}
    (h : ∀ a ∈ Bundle.npeArmAtoms n, a.before args s = true)
    (hlocs : ∀ x ∈ locs, ∀ cell, s.heap[x.base]? = some cell → cell.vm.isStatics = false)
    {g : JFrame} (hg : g.method = m₀) (hsize : g.locals.size = c.maxLocals)
    (hRframes : 7 < R.frames) (hRlocals : 2 * g.monitorRoom + (g.stack.map fun v => v.category).sum + 10240 ≤ R.locals)
    (hRcells : cells + 1 ≤ R.cells) (hRslots : slots + n ≤ R.slots) (hlocks : meth.locks = false) :
    ∃ (S : State) (q : Addr) (ce : Cell), (∀ target, Steps p.tables e below ((S.setTop g).pushFrame (.throwing q)) target → Steps p.tables e below ((W.setTop g).pushFrame (.throwNew "java/lang/NullPointerException" none none)) target) ∧
      Stand p l e R s m₀ args below meth c S locs (cells + 1) (slots + n) ∧ S.heap[q]? = some ce ∧ s.vm.findClass "java/lang/NullPointerException" = some ce.cls ∧ ce.vm = .none := by
  have howns : e.platform.frameOwnsMonitors = true := by rw [X.admits.platform]
  have hfin : e.platform.finalization = false := by rw [X.admits.platform]
  have hpl : e.platform.magicAccessors = ({} : Platform).magicAccessors := by rw [X.admits.platform]
  have hpl2 : e.platform.arrayCloneIsPublic = true := by rw [X.admits.platform]
  have a' : ∀ x, x ∈ Bundle.npeArmAtoms n → x.holds args s none s [] = true := fun x hx => h x hx
  obtain ⟨T, Z, L, LZ, Y⟩ := ThrowableC.of_atoms (args := args) howns hfin hpl (fun x hx => h x (by simp [Bundle.npeArmAtoms, hx]))
  obtain ⟨N, LN, hcN, hnNF, hordN, hffS⟩ := NpeC.of_atoms (args := args) hpl hpl2 L Y (fun x hx => h x (by simp [Bundle.npeArmAtoms, hx]))
  obtain ⟨P1, L1, hP1m, hP1s⟩ := PassC.of_atoms (args := args) (s := s) hpl (X := Bundle.nN) (Y := Bundle.rN) (by decide) (by decide) LibCode.NullPointerException.Init0.at_0 LibCode.NullPointerException.Init0.at_1 LibCode.NullPointerException.Init0.at_4 (fun x hx => h x (by simp [Bundle.npeArmAtoms, hx]))
  obtain ⟨PR, LR, hPRm, hPRs⟩ := PassC.of_atoms (args := args) (s := s) hpl (X := Bundle.rN) (Y := Bundle.eN) (by decide) (by decide) LibCode.RuntimeException.Init0.at_0 LibCode.RuntimeException.Init0.at_1 LibCode.RuntimeException.Init0.at_4 (fun x hx => h x (by simp [Bundle.npeArmAtoms, hx]))
  obtain ⟨PE, LEx, hPEm, hPEs⟩ := PassC.of_atoms (args := args) (s := s) hpl (X := Bundle.eN) (Y := Bundle.tN) (by decide) (by decide) LibCode.Exception.Init0.at_0 LibCode.Exception.Init0.at_1 LibCode.Exception.Init0.at_4 (fun x hx => h x (by simp [Bundle.npeArmAtoms, hx]))
  have hfound : s.vm.findClass Bundle.nN = some P1.m.cls := findClass_of_methodNamed hP1m
  have ecls : N.cN = P1.m.cls := Option.some.inj (hcN.symm.trans hfound)
  have hk : s.vm.classes[P1.m.cls]? = some N.kN := by rw [← ecls]; exact LN.cls
  have hinit := Cond.initialized_spec hfound hk (a' (.initialized Bundle.nN) (by simp [Bundle.npeArmAtoms]))
  have hctor : N.kN.findMethod "<init>" "()V" = some P1.m.idx := findMethod_of_methodNamed hP1m hk
  obtain ⟨c1, k1, hc1, hk1, -, -, -, hn⟩ := Cond.instantiable_spec (a' (.instantiable Bundle.nN n) (by simp [Bundle.npeArmAtoms]))
  cases Option.some.inj (hc1.symm.trans hfound)
  cases Option.some.inj (hk1.symm.trans hk)
  have hfsz : (freshCell P1.m.cls N.kN).slots.size = n := by simp [hn]
  have hlink1 : P1.sup = PR.m := Option.some.inj (hP1s.symm.trans hPRm)
  have hlinkR : PR.sup = PE.m := Option.some.inj (hPRs.symm.trans hPEm)
  have hlinkE : PE.sup = Z.m T.toThrowableT := Option.some.inj (hPEs.symm.trans Y.init0)
  have hLs : ∀ P, P ∈ [PR, PE] → P.Links0 e.platform s := fun P hP => by
    simp only [List.mem_cons, List.not_mem_nil, or_false] at hP
    rcases hP with rfl | rfl
    · exact LR
    · exact LEx
  have hsel0 : selectMethod e.platform s.vm P1.m.cls T.fill0 = .method T.fill0 := by
    obtain ⟨c2, r2, m2, q1, q2, q3, q4, -⟩ := Cond.selects_spec (a' (.selects Bundle.nN Bundle.tFill0 Bundle.tFill0) (by simp [Bundle.npeArmAtoms]))
    cases Option.some.inj (q1.symm.trans hfound)
    cases Option.some.inj (q2.symm.trans (State.methodFound?_of_named Y.fill0 (by decide)))
    cases Option.some.inj (q3.symm.trans Y.fill0)
    rw [Launch.admits_selectMethod X.admits]; exact q4
  have hselF : selectMethod e.platform s.vm P1.m.cls T.fill = .method N.fill := by
    obtain ⟨c2, r2, m2, q1, q2, q3, q4, -⟩ := Cond.selects_spec (a' (.selects Bundle.nN Bundle.tFill Bundle.nFill) (by simp [Bundle.npeArmAtoms]))
    cases Option.some.inj (q1.symm.trans hfound)
    cases Option.some.inj (q2.symm.trans (State.methodFound?_of_named Y.fill (by decide)))
    cases Option.some.inj (q3.symm.trans hnNF)
    rw [Launch.admits_selectMethod X.admits]; exact q4
  obtain ⟨cellS0, hcS0, hiss⟩ := Y.statics
  obtain ⟨u0, hu0⟩ := Cond.staticRefV Y.unassigned L.unassignedStatic L.statics hcS0 hiss (a' (.isRef (.static Bundle.tN "UNASSIGNED_STACK" Bundle.steD)) (by simp [Bundle.npeArmAtoms]))
  obtain ⟨sen, hsen⟩ := Cond.staticRefV Y.sentinel L.sentinelStatic L.statics hcS0 hiss (a' (.isRef (.static Bundle.tN "SUPPRESSED_SENTINEL" Bundle.listD)) (by simp [Bundle.npeArmAtoms]))
  obtain ⟨ci198, i198, fB, hk198, hg198, ha198, hsB, -, hnB, htB, hffB⟩ := Cond.ownField (t := .object "java/lang/Object") Y.found L.cls (by decide +kernel) (a' (.fieldLink Bundle.tN 198 Bundle.tN "backtrace" Bundle.objD) (by simp [Bundle.npeArmAtoms])) (a' (.lays Bundle.tN Bundle.tN "backtrace" Bundle.objD) (by simp [Bundle.npeArmAtoms])) e.platform hpl
  obtain ⟨cellS, hcS', heS, -, hkeep⟩ := X.same.2.2.2.2.2 T.aS cellS0 hcS0
  have hcellS : W.heap[T.aS]? = some cellS := hcS'
  have hout' : ∀ i, (⟨T.aS, i⟩ : Loc) ∉ locs := fun i hmem => by
    have := hlocs _ hmem cellS0 hcS0
    rw [hiss] at this; cases this
  have hknownS : cellS.vm ≠ .unknown := by
    rw [heS]; intro hu
    rw [show cellS0.vm = .unknown from hu] at hiss
    cases hiss
  have hvU : cellS.slots[T.fUnassigned.slot]? = some u0.v := by rw [hkeep _ (hout' _)]; exact hu0
  have hvSen : cellS.slots[T.fSentinel.slot]? = some sen.v := by rw [hkeep _ (hout' _)]; exact hsen
  obtain ⟨tyC, dC, hdC, hdnC⟩ := Cond.laysAt hfound hk Y.cause (a' (.lays Bundle.nN Bundle.tN "cause" "Ljava/lang/Throwable;") (by simp [Bundle.npeArmAtoms]))
  obtain ⟨tyS, dS, hdS, hdnS⟩ := Cond.laysAt hfound hk Y.stack (a' (.lays Bundle.nN Bundle.tN "stackTrace" Bundle.steD) (by simp [Bundle.npeArmAtoms]))
  obtain ⟨tyP, dP, hdP, hdnP⟩ := Cond.laysAt hfound hk Y.supp (a' (.lays Bundle.nN Bundle.tN "suppressedExceptions" Bundle.listD) (by simp [Bundle.npeArmAtoms]))
  obtain ⟨tyX, dX, hdX, hdnX⟩ := Cond.laysAt hfound hk hffS (a' (.lays Bundle.nN Bundle.nN "extendedMessageState" "I") (by simp [Bundle.npeArmAtoms, Bundle.npeAtoms]))
  obtain ⟨hnX, htX⟩ := State.fieldFound?_type hffS (t := .int) (by decide +kernel)
  have xC := Cond.laysApart hdC hdX hdnC hdnX (by rw [hnX, Y.causeName]; decide)
  have xS := Cond.laysApart hdS hdX hdnS hdnX (by rw [hnX, Y.stackName]; decide)
  have xP := Cond.laysApart hdP hdX hdnP hdnX (by rw [hnX, Y.suppName]; decide)
  have hv0 : (freshCell P1.m.cls N.kN).slots[N.fState.slot]? = some (.int 0) := by
    have := fresh_default (c := P1.m.cls) tyX
    rw [htX] at this; exact this
  obtain ⟨tyB, dB, hdB, hdnB⟩ := Cond.laysAt hfound hk hffB (a' (.lays Bundle.nN Bundle.tN "backtrace" Bundle.objD) (by simp [Bundle.npeArmAtoms]))
  have bC := Cond.laysApart hdB hdC hdnB hdnC (by rw [hnB, Y.causeName]; decide)
  have bS := Cond.laysApart hdB hdS hdnB hdnS (by rw [hnB, Y.stackName]; decide)
  have bP := Cond.laysApart hdB hdP hdnB hdnP (by rw [hnB, Y.suppName]; decide)
  have bX := Cond.laysApart hdB hdX hdnB hdnX (by rw [hnB, hnX]; decide)
  have hbk : ((npeCell N.toNpeT (preparedCellV T.toThrowableT (freshCell P1.m.cls N.kN) W.heap.size u0 sen) W.cur).withEntry W.cur).slots[fB.slot]? = some .null := by
    have := fresh_default (c := P1.m.cls) tyB
    rw [htB] at this
    simpa [npeCell, preparedCellV, Cell.setSlot, Cell.withEntry, Array.getElem?_setIfInBounds, bC, bS, bP, bX, bC.symm, bS.symm, bP.symm, bX.symm, defaultValue] using this
  have tkC := Takes.of_laid (v := .ref W.heap.size) hk hordN tyC (by rw [Y.causeType]; rfl)
  have tkS := Takes.of_laid (v := u0.v) hk hordN tyS (by rw [Y.stackType]; exact fits_refV_array _ u0)
  have tkP := Takes.of_laid (v := sen.v) hk hordN tyP (by rw [Y.suppType]; exact fits_refV_object _ sen)
  have tkX := Takes.of_laid (v := .int 1) hk hordN tyX (by rw [htX]; rfl)
  have hskip : SkipFacts T e.platform s (fun u => u) u0 ((npeCell N.toNpeT (preparedCellV T.toThrowableT (freshCell P1.m.cls N.kN) W.heap.size u0 sen) W.cur).withEntry W.cur) := ⟨{ ci198 := ci198, i198 := i198, fBack := fB }, ⟨hk198, hg198, ha198, hsB⟩, hbk, fun _ _ => rfl⟩
  obtain ⟨vm', X3, st, -⟩ := X.throwsNpeColdBareVAt hexec hg hsize T L Z LZ N LN P1 L1 [PR, PE] hLs hlink1 ⟨hlinkR, hlinkE, trivial⟩ hfound hk hinit hordN hctor hsel0 hselF hcellS hknownS hvU hvSen
    hv0 xC xS xP tkC tkS tkP tkX Y.objLocals hskip (fun _ _ hA hW _ hroom _ hrest => L.nativeOff p htr hA hW hroom hrest) (by simpa using hRframes) hRlocals (by simp) hRcells (by rw [hn]; exact hRslots)
  have hlt : W.heap.size < ((W.pushCell (freshCell P1.m.cls N.kN)).setVm vm').heap.size := by
    show W.heap.size < (W.pushCell (freshCell P1.m.cls N.kN)).heap.size
    rw [State.heap_size_pushCell]; omega
  rw [hfsz] at X3
  obtain ⟨g₁, hfrM⟩ := X3.frames_eq
  have hU : ((((W.pushCell (freshCell P1.m.cls N.kN)).setVm vm').setCell W.heap.size (npeBareV T.toThrowableT N.toNpeT (freshCell P1.m.cls N.kN) W.heap.size u0 sen)).setTop g).pushFrame (.throwing W.heap.size) = (((W.pushCell (freshCell P1.m.cls N.kN)).setVm vm').setCell W.heap.size (npeBareV T.toThrowableT N.toNpeT (freshCell P1.m.cls N.kN) W.heap.size u0 sen)).setFrames (.throwing W.heap.size :: .java g :: below) := by
    rw [State.pushFrame, State.frames_setTop _ hfrM, State.setTop_of_frames _ hfrM, State.setFrames_setFrames]
  refine ⟨_, W.heap.size, _, fun target ht => st.trans (by rw [← hU]; exact ht), X3.forget (fun y hy => ?_), heapAt_setCell_self _ hlt, hfound, rfl⟩
  simp only [List.mem_cons, List.not_mem_nil, or_false] at hy
  have hge : s.heap.size ≤ W.heap.size := X.same.2.1
  rcases hy with rfl | rfl | rfl | rfl | rfl <;> exact hge
/-- the words of a machine's NullPointerException, but the four that speak of the heap -/
def vx_atN (n : Nat) : List Cond := (Bundle.npeArmAtoms n).filter vx_no
/-- the words of a machine's throw with a message, but the four that speak of the heap -/
def vx_atM (X : String) (names : List String) : List Cond := (Bundle.messageArmAtoms X names).filter vx_no
section
variable {p : Program} {l : Launch} {e : Env} {R : Room} {s : State} {m : MethodId} {args : Array Value} {below : List Frame} {meth : Method} {c : Code} {H : Heap} {locs : List Loc} {cells slots : Nat}
/-- a frame seen from a rebased start, seen from the first start again -/
theorem vx_back9 {T S : State} {R' : Room} {k n : Nat} (X : Stand p l e R s m args below meth c T locs cells slots) (Y : Stand p l e R' ((T.setVm s.vm).setFrames (.invoking m args :: below)) m args below meth c T [] 0 0) (Z : Stand p l e R' ((T.setVm s.vm).setFrames (.invoking m args :: below)) m args below meth c S [] k n) :
    Stand p l e R s m args below meth c S locs (cells + k) (slots + n) := by
  have hW0 : s.WarmedH ((T.setVm s.vm).setFrames (.invoking m args :: below)).vm := State.WarmedH.refl s
  refine { admits := X.admits, cas := X.cas, clock := X.clock, frames := X.frames, room := X.room, hears := X.hears, method := X.method, code := X.code, here := Z.here, tail := Z.tail, warmed := State.WarmedH.trans hW0 Z.warmed, limits := Z.limits.trans (Y.limits.symm.trans X.limits), bytes := Z.bytes.trans (Y.bytes.symm.trans X.bytes), same := ?_ }
  obtain ⟨e1, e2⟩ := Z.same
  rw [State.setFrames_setFrames] at e1
  have h2 : (T.setVm s.vm).sameButNew (S.setVm s.vm) [] k n := ⟨e1, e2⟩
  have h3 := X.same.trans h2
  rw [List.append_nil] at h3
  exact h3
/-- from the machine's note that E is thrown here with this text -/
def vx_Note (p : Program) (l : Launch) (e : Env) (R : Room) (s : State) (m : MethodId) (args : Array Value) (below : List Frame) (meth : Method) (c : Code) (H : Heap) (locs : List Loc) (cells slots : Nat) (Q : State → Prop) (g : JFrame) (E text : String) : Prop :=
  ∀ T : State, T.heap = H → Stand p l e R s m args below meth c T locs cells slots → ∃ t, Steps p.tables e below ((T.setTop g).pushFrame (.throwNew E (some text) none)) t ∧ Q t
theorem vx_vm {pc : Nat} {ls : Array Slot} {rest : List Value} {Q : State → Prop} (hexec : p.tables.exec = Jvm.exec) (hl : l.stackTraces = false) {cls text : String} {names : List String} {nb : Nat} {A : Nat → Prop}
    (hcls : Bundle.fit cls = true) (hnames : ∀ n ∈ names, Bundle.fit n = true) (hsoe : (cls == "java/lang/StackOverflowError") = false) (hoom : (cls == "java/lang/OutOfMemoryError") = false)
    (hat : ∀ w ∈ vx_atM cls names, w.before args s = true) (hgood : ∀ w ∈ vx_atM cls names, vx_ot w = true)
    (hU : vx_Zq Bundle.tN "UNASSIGNED_STACK" Bundle.steD A s s.heap) (hN : vx_Zq Bundle.tN "SUPPRESSED_SENTINEL" Bundle.listD A s s.heap) (hS : va_S A s.heap H locs) (hsize : ls.size = c.maxLocals)
    (htext : (text == notModelled) = false) (hnb : (stringBytes (stringToUtf16 text)).size ≤ nb) (hnb1 : nb ≤ 1000)
    (hRframes : names.length + 4 < R.frames) (hRlocals : (rest.map fun v => v.category).sum + 10240 ≤ R.locals) (hshort : 13 * names.length + 55 ≤ 10240) (hRcells : cells + 3 ≤ R.cells) (hRslots : slots + (nb + 10) ≤ R.slots) (hlocks : meth.locks = false)
    (k : ∀ (H1 : Heap) (q9 : Addr) (ce : Cell), H.size ≤ H1.size → (∀ q : Nat, q < H.size → H1[q]? = H[q]?) → va_S A s.heap H1 locs → H1[q9]? = some ce → ce.vm = .none → s.vm.findClass cls = some ce.cls → vx_W p l e R s m args below meth c H1 locs (cells + 3) (slots + (nb + 10)) Q (F0 m pc ls rest) q9) :
    vx_Note p l e R s m args below meth c H locs cells slots Q (F0 m pc ls rest) cls text := by
  intro T hT X
  have htr : e.platform.stackTraces = false := (show e.platform.stackTraces = l.stackTraces by rw [X.admits.platform]).trans hl
  have Y := vx_rebase X (R' := { frames := R.frames, locals := R.locals, cells := 3, slots := nb + 10 }) (Nat.le_refl _) (Nat.le_refl _) hRcells hRslots
  have hhp : ((T.setVm s.vm).setFrames (.invoking m args :: below)).heap = H := hT
  have hW0 : s.WarmedH ((T.setVm s.vm).setFrames (.invoking m args :: below)).vm := State.WarmedH.refl s
  have hat' : ∀ w ∈ vx_atM cls names, w.before args ((T.setVm s.vm).setFrames (.invoking m args :: below)) = true := fun w hw => vx_ot_at hW0 rfl (hgood w hw) (hat w hw)
  have hU' : vx_Zq Bundle.tN "UNASSIGNED_STACK" Bundle.steD A ((T.setVm s.vm).setFrames (.invoking m args :: below)) ((T.setVm s.vm).setFrames (.invoking m args :: below)).heap := by rw [hhp]; exact vx_Zq.moved hW0.alike (hU.kept hS.2.1)
  have hN' : vx_Zq Bundle.tN "SUPPRESSED_SENTINEL" Bundle.listD A ((T.setVm s.vm).setFrames (.invoking m args :: below)) ((T.setVm s.vm).setFrames (.invoking m args :: below)).heap := by rw [hhp]; exact vx_Zq.moved hW0.alike (hN.kept hS.2.1)
  obtain ⟨S, q, ce, st, Z, hce, hcl', hv⟩ := vx_vmAt Y hexec htr (cls := cls) (names := names) (text := text) hcls hnames hsoe hoom (vx_own hat' (vx_isRefq hU'.1) (vx_isRefq hN'.1) hU'.2.word hN'.2.word) (fun x hx => nomatch hx) htext
    (by rw [Launch.admits_arrayLengthLimit X.admits]; omega) (by rw [Launch.admits_maxHeapBytes X.admits]; simp only [componentBytes]; omega)
    (g := F0 m pc ls rest) rfl hsize hRframes (by show 2 * 0 + (rest.map fun v => v.category).sum + 10240 ≤ R.locals; omega) hshort (by show 0 + 3 ≤ 3; omega) (by show 0 + (_ + 4 + 6) ≤ nb + 10; omega) hlocks
  obtain ⟨f1, f2⟩ := vx_frame Z.same
  have f1' : H.size ≤ S.heap.size := by rw [← hT]; exact f1
  have f2' : ∀ q : Nat, q < H.size → S.heap[q]? = H[q]? := fun q hq => by
    rw [← hT]
    exact f2 q (by rw [← hT] at hq; exact hq) (fun z hz => nomatch hz)
  have X5 := vx_back9 X Y Z
  have X6 : Stand p l e R s m args below meth c S locs (cells + 3) (slots + (nb + 10)) := { X5 with same := X5.same.mono (by omega) (by omega) }
  obtain ⟨t, a1, b1⟩ := k S.heap q ce f1' f2' ⟨Nat.le_trans hS.1 f1', fun q h1 h2 => (f2' q (Nat.lt_of_lt_of_le h1 hS.1)).trans (hS.2.1 q h1 h2), hS.2.2⟩ hce hv hcl' S rfl X6
  exact ⟨t, st t a1, b1⟩
/-- from the machine's note that NullPointerException is thrown here -/
def vx_NoteN (p : Program) (l : Launch) (e : Env) (R : Room) (s : State) (m : MethodId) (args : Array Value) (below : List Frame) (meth : Method) (c : Code) (H : Heap) (locs : List Loc) (cells slots : Nat) (Q : State → Prop) (g : JFrame) : Prop :=
  ∀ T : State, T.heap = H → Stand p l e R s m args below meth c T locs cells slots → ∃ t, Steps p.tables e below ((T.setTop g).pushFrame (.throwNew "java/lang/NullPointerException" none none)) t ∧ Q t
theorem vx_npe {pc : Nat} {ls : Array Slot} {rest : List Value} {Q : State → Prop} (hexec : p.tables.exec = Jvm.exec) (hl : l.stackTraces = false) {nb : Nat} {A : Nat → Prop}
    (hat : ∀ w ∈ vx_atN nb, w.before args s = true) (hgood : ∀ w ∈ vx_atN nb, vx_ot w = true)
    (hU : vx_Zq Bundle.tN "UNASSIGNED_STACK" Bundle.steD A s s.heap) (hN : vx_Zq Bundle.tN "SUPPRESSED_SENTINEL" Bundle.listD A s s.heap) (hS : va_S A s.heap H locs) (hsize : ls.size = c.maxLocals)
    (hRframes : 7 < R.frames) (hRlocals : (rest.map fun v => v.category).sum + 10240 ≤ R.locals) (hRcells : cells + 1 ≤ R.cells) (hRslots : slots + nb ≤ R.slots) (hlocks : meth.locks = false)
    (k : ∀ (H1 : Heap) (q9 : Addr) (ce : Cell), H.size ≤ H1.size → (∀ q : Nat, q < H.size → H1[q]? = H[q]?) → va_S A s.heap H1 locs → H1[q9]? = some ce → ce.vm = .none → s.vm.findClass "java/lang/NullPointerException" = some ce.cls → vx_W p l e R s m args below meth c H1 locs (cells + 1) (slots + nb) Q (F0 m pc ls rest) q9) :
    vx_NoteN p l e R s m args below meth c H locs cells slots Q (F0 m pc ls rest) := by
  intro T hT X
  have htr : e.platform.stackTraces = false := (show e.platform.stackTraces = l.stackTraces by rw [X.admits.platform]).trans hl
  have Y := vx_rebase X (R' := { frames := R.frames, locals := R.locals, cells := 1, slots := nb }) (Nat.le_refl _) (Nat.le_refl _) hRcells hRslots
  have hhp : ((T.setVm s.vm).setFrames (.invoking m args :: below)).heap = H := hT
  have hW0 : s.WarmedH ((T.setVm s.vm).setFrames (.invoking m args :: below)).vm := State.WarmedH.refl s
  have hat' : ∀ w ∈ vx_atN nb, w.before args ((T.setVm s.vm).setFrames (.invoking m args :: below)) = true := fun w hw => vx_ot_at hW0 rfl (hgood w hw) (hat w hw)
  have hU' : vx_Zq Bundle.tN "UNASSIGNED_STACK" Bundle.steD A ((T.setVm s.vm).setFrames (.invoking m args :: below)) ((T.setVm s.vm).setFrames (.invoking m args :: below)).heap := by rw [hhp]; exact vx_Zq.moved hW0.alike (hU.kept hS.2.1)
  have hN' : vx_Zq Bundle.tN "SUPPRESSED_SENTINEL" Bundle.listD A ((T.setVm s.vm).setFrames (.invoking m args :: below)) ((T.setVm s.vm).setFrames (.invoking m args :: below)).heap := by rw [hhp]; exact vx_Zq.moved hW0.alike (hN.kept hS.2.1)
  obtain ⟨S, q, ce, st, Z, hce, hcl', hv⟩ := vx_npeAt Y hexec htr (n := nb) (vx_own hat' (vx_isRefq hU'.1) (vx_isRefq hN'.1) hU'.2.word hN'.2.word) (fun x hx => nomatch hx)
    (g := F0 m pc ls rest) rfl hsize hRframes (by show 2 * 0 + (rest.map fun v => v.category).sum + 10240 ≤ R.locals; omega) (by show 0 + 1 ≤ 1; omega) (by show 0 + nb ≤ nb; omega) hlocks
  obtain ⟨f1, f2⟩ := vx_frame Z.same
  have f1' : H.size ≤ S.heap.size := by rw [← hT]; exact f1
  have f2' : ∀ q : Nat, q < H.size → S.heap[q]? = H[q]? := fun q hq => by
    rw [← hT]
    exact f2 q (by rw [← hT] at hq; exact hq) (fun z hz => nomatch hz)
  have X5 := vx_back9 X Y Z
  have X6 : Stand p l e R s m args below meth c S locs (cells + 1) (slots + nb) := { X5 with same := X5.same.mono (by omega) (by omega) }
  obtain ⟨t, a1, b1⟩ := k S.heap q ce f1' f2' ⟨Nat.le_trans hS.1 f1', fun q h1 h2 => (f2' q (Nat.lt_of_lt_of_le h1 hS.1)).trans (hS.2.1 q h1 h2), hS.2.2⟩ hce hv hcl' S rfl X6
  exact ⟨t, st t a1, b1⟩
variable {Q : State → Prop} {cc : ByteArray} {pc : Nat} {ls : Array Slot} {rest : List Value}
theorem vx_idivZ (hexec : p.tables.exec = Jvm.exec) (hb : c.code = cc) {a b : Int32} (h0 : b = 0) (d : decode cc pc = .ok (.idiv, 1)) (k : vx_Note p l e R s m args below meth c H locs cells slots Q (F0 m pc ls rest) "java/lang/ArithmeticException" "/ by zero") :
    W p l e R s m args below meth c H locs cells slots Q (F0 m pc ls (.int b :: .int a :: rest)) := by
  intro T hT X
  obtain ⟨t, st, q⟩ := k T hT X
  exact ⟨t, X.idivZero hexec (g := F0 m pc ls (.int b :: .int a :: rest)) rfl (a := a) (rest := rest) (by rw [h0]) (by rw [hb]; exact d) t st, q⟩
theorem vx_iremZ (hexec : p.tables.exec = Jvm.exec) (hb : c.code = cc) {a b : Int32} (h0 : b = 0) (d : decode cc pc = .ok (.irem, 1)) (k : vx_Note p l e R s m args below meth c H locs cells slots Q (F0 m pc ls rest) "java/lang/ArithmeticException" "/ by zero") :
    W p l e R s m args below meth c H locs cells slots Q (F0 m pc ls (.int b :: .int a :: rest)) := by
  intro T hT X
  obtain ⟨t, st, q⟩ := k T hT X
  exact ⟨t, X.iremZero hexec (g := F0 m pc ls (.int b :: .int a :: rest)) rfl (a := a) (rest := rest) (by rw [h0]) (by rw [hb]; exact d) t st, q⟩
theorem vx_ldivZ (hexec : p.tables.exec = Jvm.exec) (hb : c.code = cc) {a b : Int64} (h0 : b = 0) (d : decode cc pc = .ok (.ldiv, 1)) (k : vx_Note p l e R s m args below meth c H locs cells slots Q (F0 m pc ls rest) "java/lang/ArithmeticException" "/ by zero") :
    W p l e R s m args below meth c H locs cells slots Q (F0 m pc ls (.long b :: .long a :: rest)) := by
  intro T hT X
  obtain ⟨t, st, q⟩ := k T hT X
  exact ⟨t, X.ldivZero hexec (g := F0 m pc ls (.long b :: .long a :: rest)) rfl (a := a) (rest := rest) (by rw [h0]) (by rw [hb]; exact d) t st, q⟩
theorem vx_lremZ (hexec : p.tables.exec = Jvm.exec) (hb : c.code = cc) {a b : Int64} (h0 : b = 0) (d : decode cc pc = .ok (.lrem, 1)) (k : vx_Note p l e R s m args below meth c H locs cells slots Q (F0 m pc ls rest) "java/lang/ArithmeticException" "/ by zero") :
    W p l e R s m args below meth c H locs cells slots Q (F0 m pc ls (.long b :: .long a :: rest)) := by
  intro T hT X
  obtain ⟨t, st, q⟩ := k T hT X
  exact ⟨t, X.lremZero hexec (g := F0 m pc ls (.long b :: .long a :: rest)) rfl (a := a) (rest := rest) (by rw [h0]) (by rw [hb]; exact d) t st, q⟩
theorem vx_ialdZ {D : va_G} {cl : List vw_C} {ws : va_W} {tys : List (ClassId × FieldType)} {a : Nat} (hexec : p.tables.exec = Jvm.exec) (hb : c.code = cc) (hK : va_K D cl tys s) (hP : va_P D cl ws H) (q0 t0 : Nat) {cA : ClassId} {n : Nat} {f : Nat → Int32} (ha : ws[q0]? = some (a, .inl (cA, n, .inl f))) (ht : tys[t0]? = some (cA, .int)) {i : Int32} (hout : ¬ vp_in i n) (hdg : decode cc pc = .ok (.iaload, 1))
    (k : ∀ tx : String, tx = (toString "Index " ++ toString i ++ toString " out of bounds for length " ++ toString n : String) → vx_Note p l e R s m args below meth c H locs cells slots Q (F0 m pc ls rest) "java/lang/ArrayIndexOutOfBoundsException" tx) : W p l e R s m args below meth c H locs cells slots Q (F0 m pc ls (.int i :: .ref a :: rest)) := by
  intro T hT X
  obtain ⟨t, st, q⟩ := k _ rfl T hT X
  refine ⟨t, ?_, q⟩
  have h1 := X.ialoadOut hexec (by rw [hT]; exact hP q0 _ ha) ((hK.2 t0 _ ht).1 n (fun j => .int (f j))) (j := i) (by show (i < 0 ∨ (arrV _ _ _).slots.size ≤ _); rw [arrV_size]; exact Classical.byContradiction hout) (g := F0 m pc ls (.int i :: .ref a :: rest)) rfl (rest := rest) rfl (by rw [hb]; exact hdg) t
  simp only [arrV_size] at h1
  exact h1 st
theorem vx_iastZ {D : va_G} {cl : List vw_C} {ws : va_W} {tys : List (ClassId × FieldType)} {a : Nat} (hexec : p.tables.exec = Jvm.exec) (hb : c.code = cc) (hK : va_K D cl tys s) (hP : va_P D cl ws H) (q0 t0 : Nat) {cA : ClassId} {n : Nat} {f : Nat → Int32} (ha : ws[q0]? = some (a, .inl (cA, n, .inl f))) (ht : tys[t0]? = some (cA, .int)) {i : Int32} {x : Int32} (hout : ¬ vp_in i n) (hdg : decode cc pc = .ok (.iastore, 1))
    (k : ∀ tx : String, tx = (toString "Index " ++ toString i ++ toString " out of bounds for length " ++ toString n : String) → vx_Note p l e R s m args below meth c H locs cells slots Q (F0 m pc ls rest) "java/lang/ArrayIndexOutOfBoundsException" tx) : W p l e R s m args below meth c H locs cells slots Q (F0 m pc ls (.int x :: .int i :: .ref a :: rest)) := by
  intro T hT X
  obtain ⟨t, st, q⟩ := k _ rfl T hT X
  refine ⟨t, ?_, q⟩
  have h1 := X.iastoreOut hexec (by rw [hT]; exact hP q0 _ ha) ((hK.2 t0 _ ht).1 n (fun j => .int (f j))) (j := i) (by show (i < 0 ∨ (arrV _ _ _).slots.size ≤ _); rw [arrV_size]; exact Classical.byContradiction hout) (g := F0 m pc ls (.int x :: .int i :: .ref a :: rest)) rfl (rest := rest) rfl (by rw [hb]; exact hdg) t
  simp only [arrV_size] at h1
  exact h1 st
theorem vx_baldZ {D : va_G} {cl : List vw_C} {ws : va_W} {tys : List (ClassId × FieldType)} {a : Nat} (hexec : p.tables.exec = Jvm.exec) (hb : c.code = cc) (hK : va_K D cl tys s) (hP : va_P D cl ws H) (q0 t0 : Nat) {cA : ClassId} {n : Nat} {f : Nat → Int32} (ha : ws[q0]? = some (a, .inl (cA, n, .inl f))) (ht : tys[t0]? = some (cA, .byte)) {i : Int32} (hout : ¬ vp_in i n) (hdg : decode cc pc = .ok (.baload, 1))
    (k : ∀ tx : String, tx = (toString "Index " ++ toString i ++ toString " out of bounds for length " ++ toString n : String) → vx_Note p l e R s m args below meth c H locs cells slots Q (F0 m pc ls rest) "java/lang/ArrayIndexOutOfBoundsException" tx) : W p l e R s m args below meth c H locs cells slots Q (F0 m pc ls (.int i :: .ref a :: rest)) := by
  intro T hT X
  obtain ⟨t, st, q⟩ := k _ rfl T hT X
  refine ⟨t, ?_, q⟩
  have h1 := X.baloadOut hexec (by rw [hT]; exact hP q0 _ ha) ((hK.2 t0 _ ht).1 n (fun j => .int (f j))) (j := i) (by show (i < 0 ∨ (arrV _ _ _).slots.size ≤ _); rw [arrV_size]; exact Classical.byContradiction hout) (g := F0 m pc ls (.int i :: .ref a :: rest)) rfl (rest := rest) rfl (by rw [hb]; exact hdg) t
  simp only [arrV_size] at h1
  exact h1 st
theorem vx_bastZ {D : va_G} {cl : List vw_C} {ws : va_W} {tys : List (ClassId × FieldType)} {a : Nat} (hexec : p.tables.exec = Jvm.exec) (hb : c.code = cc) (hK : va_K D cl tys s) (hP : va_P D cl ws H) (q0 t0 : Nat) {cA : ClassId} {n : Nat} {f : Nat → Int32} (ha : ws[q0]? = some (a, .inl (cA, n, .inl f))) (ht : tys[t0]? = some (cA, .byte)) {i : Int32} {x : Int32} (hout : ¬ vp_in i n) (hdg : decode cc pc = .ok (.bastore, 1))
    (k : ∀ tx : String, tx = (toString "Index " ++ toString i ++ toString " out of bounds for length " ++ toString n : String) → vx_Note p l e R s m args below meth c H locs cells slots Q (F0 m pc ls rest) "java/lang/ArrayIndexOutOfBoundsException" tx) : W p l e R s m args below meth c H locs cells slots Q (F0 m pc ls (.int x :: .int i :: .ref a :: rest)) := by
  intro T hT X
  obtain ⟨t, st, q⟩ := k _ rfl T hT X
  refine ⟨t, ?_, q⟩
  have h1 := X.bastoreOut hexec (by rw [hT]; exact hP q0 _ ha) ((hK.2 t0 _ ht).1 n (fun j => .int (f j))) (j := i) (by show (i < 0 ∨ (arrV _ _ _).slots.size ≤ _); rw [arrV_size]; exact Classical.byContradiction hout) (g := F0 m pc ls (.int x :: .int i :: .ref a :: rest)) rfl (rest := rest) rfl (by rw [hb]; exact hdg) t
  simp only [arrV_size] at h1
  exact h1 st
theorem vx_zaldZ {D : va_G} {cl : List vw_C} {ws : va_W} {tys : List (ClassId × FieldType)} {a : Nat} (hexec : p.tables.exec = Jvm.exec) (hb : c.code = cc) (hK : va_K D cl tys s) (hP : va_P D cl ws H) (q0 t0 : Nat) {cA : ClassId} {n : Nat} {f : Nat → Int32} (ha : ws[q0]? = some (a, .inl (cA, n, .inl f))) (ht : tys[t0]? = some (cA, .boolean)) {i : Int32} (hout : ¬ vp_in i n) (hdg : decode cc pc = .ok (.baload, 1))
    (k : ∀ tx : String, tx = (toString "Index " ++ toString i ++ toString " out of bounds for length " ++ toString n : String) → vx_Note p l e R s m args below meth c H locs cells slots Q (F0 m pc ls rest) "java/lang/ArrayIndexOutOfBoundsException" tx) : W p l e R s m args below meth c H locs cells slots Q (F0 m pc ls (.int i :: .ref a :: rest)) := by
  intro T hT X
  obtain ⟨t, st, q⟩ := k _ rfl T hT X
  refine ⟨t, ?_, q⟩
  have h1 := X.baloadOut hexec (by rw [hT]; exact hP q0 _ ha) ((hK.2 t0 _ ht).1 n (fun j => .int (f j))) (j := i) (by show (i < 0 ∨ (arrV _ _ _).slots.size ≤ _); rw [arrV_size]; exact Classical.byContradiction hout) (g := F0 m pc ls (.int i :: .ref a :: rest)) rfl (rest := rest) rfl (by rw [hb]; exact hdg) t
  simp only [arrV_size] at h1
  exact h1 st
theorem vx_zastZ {D : va_G} {cl : List vw_C} {ws : va_W} {tys : List (ClassId × FieldType)} {a : Nat} (hexec : p.tables.exec = Jvm.exec) (hb : c.code = cc) (hK : va_K D cl tys s) (hP : va_P D cl ws H) (q0 t0 : Nat) {cA : ClassId} {n : Nat} {f : Nat → Int32} (ha : ws[q0]? = some (a, .inl (cA, n, .inl f))) (ht : tys[t0]? = some (cA, .boolean)) {i : Int32} {x : Int32} (hout : ¬ vp_in i n) (hdg : decode cc pc = .ok (.bastore, 1))
    (k : ∀ tx : String, tx = (toString "Index " ++ toString i ++ toString " out of bounds for length " ++ toString n : String) → vx_Note p l e R s m args below meth c H locs cells slots Q (F0 m pc ls rest) "java/lang/ArrayIndexOutOfBoundsException" tx) : W p l e R s m args below meth c H locs cells slots Q (F0 m pc ls (.int x :: .int i :: .ref a :: rest)) := by
  intro T hT X
  obtain ⟨t, st, q⟩ := k _ rfl T hT X
  refine ⟨t, ?_, q⟩
  have h1 := X.bastoreOut hexec (by rw [hT]; exact hP q0 _ ha) ((hK.2 t0 _ ht).1 n (fun j => .int (f j))) (j := i) (by show (i < 0 ∨ (arrV _ _ _).slots.size ≤ _); rw [arrV_size]; exact Classical.byContradiction hout) (g := F0 m pc ls (.int x :: .int i :: .ref a :: rest)) rfl (rest := rest) rfl (by rw [hb]; exact hdg) t
  simp only [arrV_size] at h1
  exact h1 st
theorem vx_caldZ {D : va_G} {cl : List vw_C} {ws : va_W} {tys : List (ClassId × FieldType)} {a : Nat} (hexec : p.tables.exec = Jvm.exec) (hb : c.code = cc) (hK : va_K D cl tys s) (hP : va_P D cl ws H) (q0 t0 : Nat) {cA : ClassId} {n : Nat} {f : Nat → Int32} (ha : ws[q0]? = some (a, .inl (cA, n, .inl f))) (ht : tys[t0]? = some (cA, .char)) {i : Int32} (hout : ¬ vp_in i n) (hdg : decode cc pc = .ok (.caload, 1))
    (k : ∀ tx : String, tx = (toString "Index " ++ toString i ++ toString " out of bounds for length " ++ toString n : String) → vx_Note p l e R s m args below meth c H locs cells slots Q (F0 m pc ls rest) "java/lang/ArrayIndexOutOfBoundsException" tx) : W p l e R s m args below meth c H locs cells slots Q (F0 m pc ls (.int i :: .ref a :: rest)) := by
  intro T hT X
  obtain ⟨t, st, q⟩ := k _ rfl T hT X
  refine ⟨t, ?_, q⟩
  have h1 := X.caloadOut hexec (by rw [hT]; exact hP q0 _ ha) ((hK.2 t0 _ ht).1 n (fun j => .int (f j))) (j := i) (by show (i < 0 ∨ (arrV _ _ _).slots.size ≤ _); rw [arrV_size]; exact Classical.byContradiction hout) (g := F0 m pc ls (.int i :: .ref a :: rest)) rfl (rest := rest) rfl (by rw [hb]; exact hdg) t
  simp only [arrV_size] at h1
  exact h1 st
theorem vx_castZ {D : va_G} {cl : List vw_C} {ws : va_W} {tys : List (ClassId × FieldType)} {a : Nat} (hexec : p.tables.exec = Jvm.exec) (hb : c.code = cc) (hK : va_K D cl tys s) (hP : va_P D cl ws H) (q0 t0 : Nat) {cA : ClassId} {n : Nat} {f : Nat → Int32} (ha : ws[q0]? = some (a, .inl (cA, n, .inl f))) (ht : tys[t0]? = some (cA, .char)) {i : Int32} {x : Int32} (hout : ¬ vp_in i n) (hdg : decode cc pc = .ok (.castore, 1))
    (k : ∀ tx : String, tx = (toString "Index " ++ toString i ++ toString " out of bounds for length " ++ toString n : String) → vx_Note p l e R s m args below meth c H locs cells slots Q (F0 m pc ls rest) "java/lang/ArrayIndexOutOfBoundsException" tx) : W p l e R s m args below meth c H locs cells slots Q (F0 m pc ls (.int x :: .int i :: .ref a :: rest)) := by
  intro T hT X
  obtain ⟨t, st, q⟩ := k _ rfl T hT X
  refine ⟨t, ?_, q⟩
  have h1 := X.castoreOut hexec (by rw [hT]; exact hP q0 _ ha) ((hK.2 t0 _ ht).1 n (fun j => .int (f j))) (j := i) (by show (i < 0 ∨ (arrV _ _ _).slots.size ≤ _); rw [arrV_size]; exact Classical.byContradiction hout) (g := F0 m pc ls (.int x :: .int i :: .ref a :: rest)) rfl (rest := rest) rfl (by rw [hb]; exact hdg) t
  simp only [arrV_size] at h1
  exact h1 st
theorem vx_saldZ {D : va_G} {cl : List vw_C} {ws : va_W} {tys : List (ClassId × FieldType)} {a : Nat} (hexec : p.tables.exec = Jvm.exec) (hb : c.code = cc) (hK : va_K D cl tys s) (hP : va_P D cl ws H) (q0 t0 : Nat) {cA : ClassId} {n : Nat} {f : Nat → Int32} (ha : ws[q0]? = some (a, .inl (cA, n, .inl f))) (ht : tys[t0]? = some (cA, .short)) {i : Int32} (hout : ¬ vp_in i n) (hdg : decode cc pc = .ok (.saload, 1))
    (k : ∀ tx : String, tx = (toString "Index " ++ toString i ++ toString " out of bounds for length " ++ toString n : String) → vx_Note p l e R s m args below meth c H locs cells slots Q (F0 m pc ls rest) "java/lang/ArrayIndexOutOfBoundsException" tx) : W p l e R s m args below meth c H locs cells slots Q (F0 m pc ls (.int i :: .ref a :: rest)) := by
  intro T hT X
  obtain ⟨t, st, q⟩ := k _ rfl T hT X
  refine ⟨t, ?_, q⟩
  have h1 := X.saloadOut hexec (by rw [hT]; exact hP q0 _ ha) ((hK.2 t0 _ ht).1 n (fun j => .int (f j))) (j := i) (by show (i < 0 ∨ (arrV _ _ _).slots.size ≤ _); rw [arrV_size]; exact Classical.byContradiction hout) (g := F0 m pc ls (.int i :: .ref a :: rest)) rfl (rest := rest) rfl (by rw [hb]; exact hdg) t
  simp only [arrV_size] at h1
  exact h1 st
theorem vx_sastZ {D : va_G} {cl : List vw_C} {ws : va_W} {tys : List (ClassId × FieldType)} {a : Nat} (hexec : p.tables.exec = Jvm.exec) (hb : c.code = cc) (hK : va_K D cl tys s) (hP : va_P D cl ws H) (q0 t0 : Nat) {cA : ClassId} {n : Nat} {f : Nat → Int32} (ha : ws[q0]? = some (a, .inl (cA, n, .inl f))) (ht : tys[t0]? = some (cA, .short)) {i : Int32} {x : Int32} (hout : ¬ vp_in i n) (hdg : decode cc pc = .ok (.sastore, 1))
    (k : ∀ tx : String, tx = (toString "Index " ++ toString i ++ toString " out of bounds for length " ++ toString n : String) → vx_Note p l e R s m args below meth c H locs cells slots Q (F0 m pc ls rest) "java/lang/ArrayIndexOutOfBoundsException" tx) : W p l e R s m args below meth c H locs cells slots Q (F0 m pc ls (.int x :: .int i :: .ref a :: rest)) := by
  intro T hT X
  obtain ⟨t, st, q⟩ := k _ rfl T hT X
  refine ⟨t, ?_, q⟩
  have h1 := X.sastoreOut hexec (by rw [hT]; exact hP q0 _ ha) ((hK.2 t0 _ ht).1 n (fun j => .int (f j))) (j := i) (by show (i < 0 ∨ (arrV _ _ _).slots.size ≤ _); rw [arrV_size]; exact Classical.byContradiction hout) (g := F0 m pc ls (.int x :: .int i :: .ref a :: rest)) rfl (rest := rest) rfl (by rw [hb]; exact hdg) t
  simp only [arrV_size] at h1
  exact h1 st
theorem vx_laldZ {D : va_G} {cl : List vw_C} {ws : va_W} {tys : List (ClassId × FieldType)} {a : Nat} (hexec : p.tables.exec = Jvm.exec) (hb : c.code = cc) (hK : va_K D cl tys s) (hP : va_P D cl ws H) (q0 t0 : Nat) {cA : ClassId} {n : Nat} {f : Nat → Int64} (ha : ws[q0]? = some (a, .inl (cA, n, .inr (.inl f)))) (ht : tys[t0]? = some (cA, .long)) {i : Int32} (hout : ¬ vp_in i n) (hdg : decode cc pc = .ok (.laload, 1))
    (k : ∀ tx : String, tx = (toString "Index " ++ toString i ++ toString " out of bounds for length " ++ toString n : String) → vx_Note p l e R s m args below meth c H locs cells slots Q (F0 m pc ls rest) "java/lang/ArrayIndexOutOfBoundsException" tx) : W p l e R s m args below meth c H locs cells slots Q (F0 m pc ls (.int i :: .ref a :: rest)) := by
  intro T hT X
  obtain ⟨t, st, q⟩ := k _ rfl T hT X
  refine ⟨t, ?_, q⟩
  have h1 := X.laloadOut hexec (by rw [hT]; exact hP q0 _ ha) ((hK.2 t0 _ ht).1 n (fun j => .long (f j))) (j := i) (by show (i < 0 ∨ (arrV _ _ _).slots.size ≤ _); rw [arrV_size]; exact Classical.byContradiction hout) (g := F0 m pc ls (.int i :: .ref a :: rest)) rfl (rest := rest) rfl (by rw [hb]; exact hdg) t
  simp only [arrV_size] at h1
  exact h1 st
theorem vx_lastZ {D : va_G} {cl : List vw_C} {ws : va_W} {tys : List (ClassId × FieldType)} {a : Nat} (hexec : p.tables.exec = Jvm.exec) (hb : c.code = cc) (hK : va_K D cl tys s) (hP : va_P D cl ws H) (q0 t0 : Nat) {cA : ClassId} {n : Nat} {f : Nat → Int64} (ha : ws[q0]? = some (a, .inl (cA, n, .inr (.inl f)))) (ht : tys[t0]? = some (cA, .long)) {i : Int32} {x : Int64} (hout : ¬ vp_in i n) (hdg : decode cc pc = .ok (.lastore, 1))
    (k : ∀ tx : String, tx = (toString "Index " ++ toString i ++ toString " out of bounds for length " ++ toString n : String) → vx_Note p l e R s m args below meth c H locs cells slots Q (F0 m pc ls rest) "java/lang/ArrayIndexOutOfBoundsException" tx) : W p l e R s m args below meth c H locs cells slots Q (F0 m pc ls (.long x :: .int i :: .ref a :: rest)) := by
  intro T hT X
  obtain ⟨t, st, q⟩ := k _ rfl T hT X
  refine ⟨t, ?_, q⟩
  have h1 := X.lastoreOut hexec (by rw [hT]; exact hP q0 _ ha) ((hK.2 t0 _ ht).1 n (fun j => .long (f j))) (j := i) (by show (i < 0 ∨ (arrV _ _ _).slots.size ≤ _); rw [arrV_size]; exact Classical.byContradiction hout) (g := F0 m pc ls (.long x :: .int i :: .ref a :: rest)) rfl (rest := rest) rfl (by rw [hb]; exact hdg) t
  simp only [arrV_size] at h1
  exact h1 st
theorem vx_faldZ {D : va_G} {cl : List vw_C} {ws : va_W} {tys : List (ClassId × FieldType)} {a : Nat} (hexec : p.tables.exec = Jvm.exec) (hb : c.code = cc) (hK : va_K D cl tys s) (hP : va_P D cl ws H) (q0 t0 : Nat) {cA : ClassId} {n : Nat} {f : Nat → UInt32} (ha : ws[q0]? = some (a, .inl (cA, n, .inr (.inr (.inl f))))) (ht : tys[t0]? = some (cA, .float)) {i : Int32} (hout : ¬ vp_in i n) (hdg : decode cc pc = .ok (.faload, 1))
    (k : ∀ tx : String, tx = (toString "Index " ++ toString i ++ toString " out of bounds for length " ++ toString n : String) → vx_Note p l e R s m args below meth c H locs cells slots Q (F0 m pc ls rest) "java/lang/ArrayIndexOutOfBoundsException" tx) : W p l e R s m args below meth c H locs cells slots Q (F0 m pc ls (.int i :: .ref a :: rest)) := by
  intro T hT X
  obtain ⟨t, st, q⟩ := k _ rfl T hT X
  refine ⟨t, ?_, q⟩
  have h1 := X.faloadOut hexec (by rw [hT]; exact hP q0 _ ha) ((hK.2 t0 _ ht).1 n (fun j => .float (f j))) (j := i) (by show (i < 0 ∨ (arrV _ _ _).slots.size ≤ _); rw [arrV_size]; exact Classical.byContradiction hout) (g := F0 m pc ls (.int i :: .ref a :: rest)) rfl (rest := rest) rfl (by rw [hb]; exact hdg) t
  simp only [arrV_size] at h1
  exact h1 st
theorem vx_fastZ {D : va_G} {cl : List vw_C} {ws : va_W} {tys : List (ClassId × FieldType)} {a : Nat} (hexec : p.tables.exec = Jvm.exec) (hb : c.code = cc) (hK : va_K D cl tys s) (hP : va_P D cl ws H) (q0 t0 : Nat) {cA : ClassId} {n : Nat} {f : Nat → UInt32} (ha : ws[q0]? = some (a, .inl (cA, n, .inr (.inr (.inl f))))) (ht : tys[t0]? = some (cA, .float)) {i : Int32} {x : UInt32} (hout : ¬ vp_in i n) (hdg : decode cc pc = .ok (.fastore, 1))
    (k : ∀ tx : String, tx = (toString "Index " ++ toString i ++ toString " out of bounds for length " ++ toString n : String) → vx_Note p l e R s m args below meth c H locs cells slots Q (F0 m pc ls rest) "java/lang/ArrayIndexOutOfBoundsException" tx) : W p l e R s m args below meth c H locs cells slots Q (F0 m pc ls (.float x :: .int i :: .ref a :: rest)) := by
  intro T hT X
  obtain ⟨t, st, q⟩ := k _ rfl T hT X
  refine ⟨t, ?_, q⟩
  have h1 := X.fastoreOut hexec (by rw [hT]; exact hP q0 _ ha) ((hK.2 t0 _ ht).1 n (fun j => .float (f j))) (j := i) (by show (i < 0 ∨ (arrV _ _ _).slots.size ≤ _); rw [arrV_size]; exact Classical.byContradiction hout) (g := F0 m pc ls (.float x :: .int i :: .ref a :: rest)) rfl (rest := rest) rfl (by rw [hb]; exact hdg) t
  simp only [arrV_size] at h1
  exact h1 st
theorem vx_daldZ {D : va_G} {cl : List vw_C} {ws : va_W} {tys : List (ClassId × FieldType)} {a : Nat} (hexec : p.tables.exec = Jvm.exec) (hb : c.code = cc) (hK : va_K D cl tys s) (hP : va_P D cl ws H) (q0 t0 : Nat) {cA : ClassId} {n : Nat} {f : Nat → UInt64} (ha : ws[q0]? = some (a, .inl (cA, n, .inr (.inr (.inr (.inl f)))))) (ht : tys[t0]? = some (cA, .double)) {i : Int32} (hout : ¬ vp_in i n) (hdg : decode cc pc = .ok (.daload, 1))
    (k : ∀ tx : String, tx = (toString "Index " ++ toString i ++ toString " out of bounds for length " ++ toString n : String) → vx_Note p l e R s m args below meth c H locs cells slots Q (F0 m pc ls rest) "java/lang/ArrayIndexOutOfBoundsException" tx) : W p l e R s m args below meth c H locs cells slots Q (F0 m pc ls (.int i :: .ref a :: rest)) := by
  intro T hT X
  obtain ⟨t, st, q⟩ := k _ rfl T hT X
  refine ⟨t, ?_, q⟩
  have h1 := X.daloadOut hexec (by rw [hT]; exact hP q0 _ ha) ((hK.2 t0 _ ht).1 n (fun j => .double (f j))) (j := i) (by show (i < 0 ∨ (arrV _ _ _).slots.size ≤ _); rw [arrV_size]; exact Classical.byContradiction hout) (g := F0 m pc ls (.int i :: .ref a :: rest)) rfl (rest := rest) rfl (by rw [hb]; exact hdg) t
  simp only [arrV_size] at h1
  exact h1 st
theorem vx_dastZ {D : va_G} {cl : List vw_C} {ws : va_W} {tys : List (ClassId × FieldType)} {a : Nat} (hexec : p.tables.exec = Jvm.exec) (hb : c.code = cc) (hK : va_K D cl tys s) (hP : va_P D cl ws H) (q0 t0 : Nat) {cA : ClassId} {n : Nat} {f : Nat → UInt64} (ha : ws[q0]? = some (a, .inl (cA, n, .inr (.inr (.inr (.inl f)))))) (ht : tys[t0]? = some (cA, .double)) {i : Int32} {x : UInt64} (hout : ¬ vp_in i n) (hdg : decode cc pc = .ok (.dastore, 1))
    (k : ∀ tx : String, tx = (toString "Index " ++ toString i ++ toString " out of bounds for length " ++ toString n : String) → vx_Note p l e R s m args below meth c H locs cells slots Q (F0 m pc ls rest) "java/lang/ArrayIndexOutOfBoundsException" tx) : W p l e R s m args below meth c H locs cells slots Q (F0 m pc ls (.double x :: .int i :: .ref a :: rest)) := by
  intro T hT X
  obtain ⟨t, st, q⟩ := k _ rfl T hT X
  refine ⟨t, ?_, q⟩
  have h1 := X.dastoreOut hexec (by rw [hT]; exact hP q0 _ ha) ((hK.2 t0 _ ht).1 n (fun j => .double (f j))) (j := i) (by show (i < 0 ∨ (arrV _ _ _).slots.size ≤ _); rw [arrV_size]; exact Classical.byContradiction hout) (g := F0 m pc ls (.double x :: .int i :: .ref a :: rest)) rfl (rest := rest) rfl (by rw [hb]; exact hdg) t
  simp only [arrV_size] at h1
  exact h1 st
theorem vx_arraylengthN (hexec : p.tables.exec = Jvm.exec) (hb : c.code = cc) (hdg : decode cc pc = .ok (.arraylength, 1)) (k : vx_NoteN p l e R s m args below meth c H locs cells slots Q (F0 m pc ls rest)) : W p l e R s m args below meth c H locs cells slots Q (F0 m pc ls (.null :: rest)) := by
  intro T hT X
  obtain ⟨t, st, q⟩ := k T hT X
  exact ⟨t, X.arraylengthNull hexec (g := F0 m pc ls (.null :: rest)) rfl (rest := rest) rfl (by rw [hb]; exact hdg) t st, q⟩
theorem vx_ialoadN (hexec : p.tables.exec = Jvm.exec) (hb : c.code = cc) {i : Int32} (hdg : decode cc pc = .ok (.iaload, 1)) (k : vx_NoteN p l e R s m args below meth c H locs cells slots Q (F0 m pc ls rest)) : W p l e R s m args below meth c H locs cells slots Q (F0 m pc ls (.int i :: .null :: rest)) := by
  intro T hT X
  obtain ⟨t, st, q⟩ := k T hT X
  exact ⟨t, X.ialoadNull hexec (g := F0 m pc ls (.int i :: .null :: rest)) rfl (rest := rest) rfl (by rw [hb]; exact hdg) t st, q⟩
theorem vx_laloadN (hexec : p.tables.exec = Jvm.exec) (hb : c.code = cc) {i : Int32} (hdg : decode cc pc = .ok (.laload, 1)) (k : vx_NoteN p l e R s m args below meth c H locs cells slots Q (F0 m pc ls rest)) : W p l e R s m args below meth c H locs cells slots Q (F0 m pc ls (.int i :: .null :: rest)) := by
  intro T hT X
  obtain ⟨t, st, q⟩ := k T hT X
  exact ⟨t, X.laloadNull hexec (g := F0 m pc ls (.int i :: .null :: rest)) rfl (rest := rest) rfl (by rw [hb]; exact hdg) t st, q⟩
theorem vx_faloadN (hexec : p.tables.exec = Jvm.exec) (hb : c.code = cc) {i : Int32} (hdg : decode cc pc = .ok (.faload, 1)) (k : vx_NoteN p l e R s m args below meth c H locs cells slots Q (F0 m pc ls rest)) : W p l e R s m args below meth c H locs cells slots Q (F0 m pc ls (.int i :: .null :: rest)) := by
  intro T hT X
  obtain ⟨t, st, q⟩ := k T hT X
  exact ⟨t, X.faloadNull hexec (g := F0 m pc ls (.int i :: .null :: rest)) rfl (rest := rest) rfl (by rw [hb]; exact hdg) t st, q⟩
theorem vx_daloadN (hexec : p.tables.exec = Jvm.exec) (hb : c.code = cc) {i : Int32} (hdg : decode cc pc = .ok (.daload, 1)) (k : vx_NoteN p l e R s m args below meth c H locs cells slots Q (F0 m pc ls rest)) : W p l e R s m args below meth c H locs cells slots Q (F0 m pc ls (.int i :: .null :: rest)) := by
  intro T hT X
  obtain ⟨t, st, q⟩ := k T hT X
  exact ⟨t, X.daloadNull hexec (g := F0 m pc ls (.int i :: .null :: rest)) rfl (rest := rest) rfl (by rw [hb]; exact hdg) t st, q⟩
theorem vx_aaloadN (hexec : p.tables.exec = Jvm.exec) (hb : c.code = cc) {i : Int32} (hdg : decode cc pc = .ok (.aaload, 1)) (k : vx_NoteN p l e R s m args below meth c H locs cells slots Q (F0 m pc ls rest)) : W p l e R s m args below meth c H locs cells slots Q (F0 m pc ls (.int i :: .null :: rest)) := by
  intro T hT X
  obtain ⟨t, st, q⟩ := k T hT X
  exact ⟨t, X.aaloadNull hexec (g := F0 m pc ls (.int i :: .null :: rest)) rfl (rest := rest) rfl (by rw [hb]; exact hdg) t st, q⟩
theorem vx_baloadN (hexec : p.tables.exec = Jvm.exec) (hb : c.code = cc) {i : Int32} (hdg : decode cc pc = .ok (.baload, 1)) (k : vx_NoteN p l e R s m args below meth c H locs cells slots Q (F0 m pc ls rest)) : W p l e R s m args below meth c H locs cells slots Q (F0 m pc ls (.int i :: .null :: rest)) := by
  intro T hT X
  obtain ⟨t, st, q⟩ := k T hT X
  exact ⟨t, X.baloadNull hexec (g := F0 m pc ls (.int i :: .null :: rest)) rfl (rest := rest) rfl (by rw [hb]; exact hdg) t st, q⟩
theorem vx_caloadN (hexec : p.tables.exec = Jvm.exec) (hb : c.code = cc) {i : Int32} (hdg : decode cc pc = .ok (.caload, 1)) (k : vx_NoteN p l e R s m args below meth c H locs cells slots Q (F0 m pc ls rest)) : W p l e R s m args below meth c H locs cells slots Q (F0 m pc ls (.int i :: .null :: rest)) := by
  intro T hT X
  obtain ⟨t, st, q⟩ := k T hT X
  exact ⟨t, X.caloadNull hexec (g := F0 m pc ls (.int i :: .null :: rest)) rfl (rest := rest) rfl (by rw [hb]; exact hdg) t st, q⟩
theorem vx_saloadN (hexec : p.tables.exec = Jvm.exec) (hb : c.code = cc) {i : Int32} (hdg : decode cc pc = .ok (.saload, 1)) (k : vx_NoteN p l e R s m args below meth c H locs cells slots Q (F0 m pc ls rest)) : W p l e R s m args below meth c H locs cells slots Q (F0 m pc ls (.int i :: .null :: rest)) := by
  intro T hT X
  obtain ⟨t, st, q⟩ := k T hT X
  exact ⟨t, X.saloadNull hexec (g := F0 m pc ls (.int i :: .null :: rest)) rfl (rest := rest) rfl (by rw [hb]; exact hdg) t st, q⟩
theorem vx_iastoreN (hexec : p.tables.exec = Jvm.exec) (hb : c.code = cc) {x : Int32} {i : Int32} (hdg : decode cc pc = .ok (.iastore, 1)) (k : vx_NoteN p l e R s m args below meth c H locs cells slots Q (F0 m pc ls rest)) : W p l e R s m args below meth c H locs cells slots Q (F0 m pc ls (.int x :: .int i :: .null :: rest)) := by
  intro T hT X
  obtain ⟨t, st, q⟩ := k T hT X
  exact ⟨t, X.iastoreNull hexec (g := F0 m pc ls (.int x :: .int i :: .null :: rest)) rfl (rest := rest) rfl (by rw [hb]; exact hdg) t st, q⟩
theorem vx_lastoreN (hexec : p.tables.exec = Jvm.exec) (hb : c.code = cc) {x : Int64} {i : Int32} (hdg : decode cc pc = .ok (.lastore, 1)) (k : vx_NoteN p l e R s m args below meth c H locs cells slots Q (F0 m pc ls rest)) : W p l e R s m args below meth c H locs cells slots Q (F0 m pc ls (.long x :: .int i :: .null :: rest)) := by
  intro T hT X
  obtain ⟨t, st, q⟩ := k T hT X
  exact ⟨t, X.lastoreNull hexec (g := F0 m pc ls (.long x :: .int i :: .null :: rest)) rfl (rest := rest) rfl (by rw [hb]; exact hdg) t st, q⟩
theorem vx_fastoreN (hexec : p.tables.exec = Jvm.exec) (hb : c.code = cc) {x : UInt32} {i : Int32} (hdg : decode cc pc = .ok (.fastore, 1)) (k : vx_NoteN p l e R s m args below meth c H locs cells slots Q (F0 m pc ls rest)) : W p l e R s m args below meth c H locs cells slots Q (F0 m pc ls (.float x :: .int i :: .null :: rest)) := by
  intro T hT X
  obtain ⟨t, st, q⟩ := k T hT X
  exact ⟨t, X.fastoreNull hexec (g := F0 m pc ls (.float x :: .int i :: .null :: rest)) rfl (rest := rest) rfl (by rw [hb]; exact hdg) t st, q⟩
theorem vx_dastoreN (hexec : p.tables.exec = Jvm.exec) (hb : c.code = cc) {x : UInt64} {i : Int32} (hdg : decode cc pc = .ok (.dastore, 1)) (k : vx_NoteN p l e R s m args below meth c H locs cells slots Q (F0 m pc ls rest)) : W p l e R s m args below meth c H locs cells slots Q (F0 m pc ls (.double x :: .int i :: .null :: rest)) := by
  intro T hT X
  obtain ⟨t, st, q⟩ := k T hT X
  exact ⟨t, X.dastoreNull hexec (g := F0 m pc ls (.double x :: .int i :: .null :: rest)) rfl (rest := rest) rfl (by rw [hb]; exact hdg) t st, q⟩
theorem vx_bastoreN (hexec : p.tables.exec = Jvm.exec) (hb : c.code = cc) {x : Int32} {i : Int32} (hdg : decode cc pc = .ok (.bastore, 1)) (k : vx_NoteN p l e R s m args below meth c H locs cells slots Q (F0 m pc ls rest)) : W p l e R s m args below meth c H locs cells slots Q (F0 m pc ls (.int x :: .int i :: .null :: rest)) := by
  intro T hT X
  obtain ⟨t, st, q⟩ := k T hT X
  exact ⟨t, X.bastoreNull hexec (g := F0 m pc ls (.int x :: .int i :: .null :: rest)) rfl (rest := rest) rfl (by rw [hb]; exact hdg) t st, q⟩
theorem vx_castoreN (hexec : p.tables.exec = Jvm.exec) (hb : c.code = cc) {x : Int32} {i : Int32} (hdg : decode cc pc = .ok (.castore, 1)) (k : vx_NoteN p l e R s m args below meth c H locs cells slots Q (F0 m pc ls rest)) : W p l e R s m args below meth c H locs cells slots Q (F0 m pc ls (.int x :: .int i :: .null :: rest)) := by
  intro T hT X
  obtain ⟨t, st, q⟩ := k T hT X
  exact ⟨t, X.castoreNull hexec (g := F0 m pc ls (.int x :: .int i :: .null :: rest)) rfl (rest := rest) rfl (by rw [hb]; exact hdg) t st, q⟩
theorem vx_sastoreN (hexec : p.tables.exec = Jvm.exec) (hb : c.code = cc) {x : Int32} {i : Int32} (hdg : decode cc pc = .ok (.sastore, 1)) (k : vx_NoteN p l e R s m args below meth c H locs cells slots Q (F0 m pc ls rest)) : W p l e R s m args below meth c H locs cells slots Q (F0 m pc ls (.int x :: .int i :: .null :: rest)) := by
  intro T hT X
  obtain ⟨t, st, q⟩ := k T hT X
  exact ⟨t, X.sastoreNull hexec (g := F0 m pc ls (.int x :: .int i :: .null :: rest)) rfl (rest := rest) rfl (by rw [hb]; exact hdg) t st, q⟩
theorem vx_invokeN {own C : String} {index maxL : Nat} {y : MethodName} {bytes : ByteArray} {ret : Option FieldType} (hexec : p.tables.exec = Jvm.exec) (hb : c.code = cc) (hown : s.vm.findClass own = some m.cls) (hlink : (Cond.methodLink own index y).before args s = true) (hinst : (Cond.instanceMethod y).before args s = true) (hcode : (Cond.code y bytes maxL ret).before args s = true) (hsel : (Cond.selects C y y).before args s = true)
    (hx : y.cls ≠ "java/lang/invoke/MethodHandle" ∧ y.cls ≠ "java/lang/invoke/VarHandle") {As : List Value} (hlen : (parseMethodDescriptor y.desc).map (fun d => d.parameters.length) = some As.length) (hdg : decode cc pc = .ok (.invokevirtual index, 3))
    (k : vx_NoteN p l e R s m args below meth c H locs cells slots Q (F0 m pc ls rest)) {st0 : List Value} (hst : st0 = As.reverse ++ .null :: rest) : W p l e R s m args below meth c H locs cells slots Q (F0 m pc ls st0) := by
  intro T hT X
  obtain ⟨r0, r, hn, hrm, hstR, hsigR⟩ := va_Decl.of hinst hcode
  obtain ⟨c2, r2, m2, q1, q2, q3, q4, kP, hkP, hkPi⟩ := Cond.selects_spec hsel
  cases hn.symm.trans q3
  have hl9 : As.length = r.sig.parameters.length := by
    rw [hsigR] at hlen
    exact (Option.some.inj hlen).symm
  obtain ⟨vm', X1, st1⟩ := X.invokevirtualNull hexec hown hlink hn hrm hstR hkP hkPi hx (g := F0 m pc ls st0) rfl (argsL := As) (rest := rest) hl9 hst (by rw [hb]; exact hdg)
  obtain ⟨t, st, q⟩ := k (T.setVm vm') hT X1
  exact ⟨t, st1 t st, q⟩
theorem vx_newarrayZ {atype : ArrayType} (hexec : p.tables.exec = Jvm.exec) (hb : c.code = cc) {n : Int32} (h0 : n < 0) (hdg : decode cc pc = .ok (.newarray atype, 2)) (k : ∀ tx : String, tx = toString n → vx_Note p l e R s m args below meth c H locs cells slots Q (F0 m pc ls rest) "java/lang/NegativeArraySizeException" tx) : W p l e R s m args below meth c H locs cells slots Q (F0 m pc ls (.int n :: rest)) := by
  intro T hT X
  obtain ⟨t, st, q⟩ := k _ rfl T hT X
  exact ⟨t, X.newarrayNegative hexec (g := F0 m pc ls (.int n :: rest)) rfl h0 (rest := rest) rfl (by rw [hb]; exact hdg) t st, q⟩
end
end VXM
/-! ===== END ===== -/
/-! ===== BEGIN an exception as an object: made, kept, thrown later (no traces kept) ===== -/
section VXK
variable {p : Program} {l : Launch} {e : Env} {R : Room} {s : State} {m₀ : MethodId} {args : Array Value} {below : List Frame} {meth : Method} {c : Code} {W : State} {locs : List Loc} {cells slots : Nat}
set_option maxHeartbeats 1000000 in
theorem vx_ctorMadeS (X : Stand p l e R s m₀ args below meth c W locs cells slots) (hexec : p.tables.exec = Jvm.exec) (htr : e.platform.stackTraces = false) {own cls : String} {names : List String} {ic : Nat}
    (hown : s.vm.findClass own = some m₀.cls) (hcls : Bundle.fit cls = true) (hnames : ∀ n ∈ names, Bundle.fit n = true)
    (h : ∀ a ∈ Bundle.ownAtoms own ic cls names, a.before args s = true)
    (hlocs : ∀ x ∈ locs, ∀ cell, s.heap[x.base]? = some cell → cell.vm.isStatics = false)
    {a : Addr} {cX : ClassId} {kX : Class} (hfoundX : s.vm.findClass cls = some cX) (hkX : s.vm.classes[cX]? = some kX) (hcell : W.heap[a]? = some (freshCell cX kX)) (hnew : s.heap.size ≤ a)
    {msg : Value} (hmsg : msg.isRef = true)
    {g : JFrame} (hg : g.method = m₀) (hsize : g.locals.size = c.maxLocals) {rest : List Value} (hstack : g.stack = msg :: .ref a :: .ref a :: rest)
    (hd6 : decode c.code g.pc = .ok (.invokespecial ic, 3))
    (hRframes : names.length + 3 < R.frames) (hRlocals : 2 * g.monitorRoom + ((Value.ref a :: rest).map fun v => v.category).sum + (13 * (names.length + 1) + 42) ≤ R.locals) :
    ∃ (V : State) (ce : Cell) (L : List Loc), Stand p l e R s m₀ args below meth c (V.setCell a ce) (locs ++ L) cells slots ∧ (∀ y ∈ L, y.base = a) ∧ a < V.heap.size ∧ ce.cls = cX ∧ ce.vm = .none ∧
      ∀ target, Steps p.tables e below ((V.setCell a ce).setTop { g with stack := .ref a :: rest, pc := g.pc + 3 }) target → Steps p.tables e below (W.setTop g) target := by
  have howns : e.platform.frameOwnsMonitors = true := by rw [X.admits.platform]
  have hfin : e.platform.finalization = false := by rw [X.admits.platform]
  have hpl : e.platform.magicAccessors = ({} : Platform).magicAccessors := by rw [X.admits.platform]
  have a' : ∀ x, x ∈ Bundle.ownAtoms own ic cls names → x.holds args s none s [] = true := fun x hx => h x hx
  obtain ⟨T, Z0, L, -, Y⟩ := ThrowableC.of_atoms (args := args) howns hfin hpl (fun x hx => h x (by simp [Bundle.ownAtoms, hx]))
  obtain ⟨Z, M, LZ, LM, hnZ⟩ := Init0T.ofS_atoms (args := args) hpl L Y (fun x hx => h x (by simp [Bundle.ownAtoms, hx]))
  obtain ⟨P1, Ps, hlen, L1, hL, hP1m, hlink1, hlink⟩ := Bundle.chainS (args := args) hpl hnZ names cls hcls hnames (fun x hx => h x (by simp [Bundle.ownAtoms, hx]))
  have hfound : s.vm.findClass cls = some P1.m.cls := findClass_of_methodNamed hP1m
  cases Option.some.inj (hfoundX.symm.trans hfound)
  obtain ⟨c1, kX', hc1, hk, hord, -, -, hn6⟩ := Cond.instantiable_spec (a' (.instantiable cls 6) (by simp [Bundle.ownAtoms]))
  cases Option.some.inj (hc1.symm.trans hfound)
  cases Option.some.inj (hkX.symm.trans hk)
  have hsel0 : selectMethod e.platform s.vm P1.m.cls T.fill0 = .method T.fill0 := by
    obtain ⟨c2, r2, m2, q1, q2, q3, q4, -⟩ := Cond.selects_spec (a' (.selects cls Bundle.tFill0 Bundle.tFill0) (by simp [Bundle.ownAtoms]))
    cases Option.some.inj (q1.symm.trans hfound)
    cases Option.some.inj (q2.symm.trans (State.methodFound?_of_named Y.fill0 (by decide)))
    cases Option.some.inj (q3.symm.trans Y.fill0)
    rw [Launch.admits_selectMethod X.admits]; exact q4
  have hselF : selectMethod e.platform s.vm P1.m.cls T.fill = .method T.fill := by
    obtain ⟨c2, r2, m2, q1, q2, q3, q4, -⟩ := Cond.selects_spec (a' (.selects cls Bundle.tFill Bundle.tFill) (by simp [Bundle.ownAtoms]))
    cases Option.some.inj (q1.symm.trans hfound)
    cases Option.some.inj (q2.symm.trans (State.methodFound?_of_named Y.fill (by decide)))
    cases Option.some.inj (q3.symm.trans Y.fill)
    rw [Launch.admits_selectMethod X.admits]; exact q4
  obtain ⟨cellS0, hcS0, hiss⟩ := Y.statics
  obtain ⟨u0, hu0⟩ := Cond.staticRefV Y.unassigned L.unassignedStatic L.statics hcS0 hiss (a' (.isRef (.static Bundle.tN "UNASSIGNED_STACK" Bundle.steD)) (by simp [Bundle.ownAtoms]))
  obtain ⟨sen, hsen⟩ := Cond.staticRefV Y.sentinel L.sentinelStatic L.statics hcS0 hiss (a' (.isRef (.static Bundle.tN "SUPPRESSED_SENTINEL" Bundle.listD)) (by simp [Bundle.ownAtoms]))
  obtain ⟨ci198, i198, fB, hk198, hg198, ha198, hsB, -, hnB, htB, hffB⟩ := Cond.ownField (t := .object "java/lang/Object") Y.found L.cls (by decide +kernel) (a' (.fieldLink Bundle.tN 198 Bundle.tN "backtrace" "Ljava/lang/Object;") (by simp [Bundle.ownAtoms])) (a' (.lays Bundle.tN Bundle.tN "backtrace" "Ljava/lang/Object;") (by simp [Bundle.ownAtoms])) e.platform hpl
  obtain ⟨cellS, hcS', heS, -, hkeep⟩ := X.same.2.2.2.2.2 T.aS cellS0 hcS0
  have hcellS : W.heap[T.aS]? = some cellS := hcS'
  have hout' : ∀ i, (⟨T.aS, i⟩ : Loc) ∉ locs := fun i hmem => by
    have := hlocs _ hmem cellS0 hcS0
    rw [hiss] at this; cases this
  have hknownS : cellS.vm ≠ .unknown := by
    rw [heS]; intro hu
    rw [show cellS0.vm = .unknown from hu] at hiss
    cases hiss
  have hneS : T.aS ≠ a := Nat.ne_of_lt (Nat.lt_of_lt_of_le (Array.getElem?_eq_some_iff.mp hcS0).1 hnew)
  obtain ⟨iM, hffM⟩ := Y.msg
  obtain ⟨tyC, dC, hdC, hdnC⟩ := Cond.laysAt hfound hk Y.cause (a' (.lays cls Bundle.tN "cause" "Ljava/lang/Throwable;") (by simp [Bundle.ownAtoms]))
  obtain ⟨tyS, dS, hdS, hdnS⟩ := Cond.laysAt hfound hk Y.stack (a' (.lays cls Bundle.tN "stackTrace" Bundle.steD) (by simp [Bundle.ownAtoms]))
  obtain ⟨tyP, dP, hdP, hdnP⟩ := Cond.laysAt hfound hk Y.supp (a' (.lays cls Bundle.tN "suppressedExceptions" Bundle.listD) (by simp [Bundle.ownAtoms]))
  obtain ⟨tyM, dM, hdM, hdnM⟩ := Cond.laysAt hfound hk hffM (a' (.lays cls Bundle.tN "detailMessage" "Ljava/lang/String;") (by simp [Bundle.ownAtoms]))
  obtain ⟨tyB, dB, hdB, hdnB⟩ := Cond.laysAt hfound hk hffB (a' (.lays cls Bundle.tN "backtrace" "Ljava/lang/Object;") (by simp [Bundle.ownAtoms]))
  have bC := Cond.laysApart hdB hdC hdnB hdnC (by rw [hnB, Y.causeName]; decide)
  have bS := Cond.laysApart hdB hdS hdnB hdnS (by rw [hnB, Y.stackName]; decide)
  have bP := Cond.laysApart hdB hdP hdnB hdnP (by rw [hnB, Y.suppName]; decide)
  have hskip : SkipFacts T e.platform s (fun u => u) u0 ((preparedCellV T.toThrowableT (freshCell P1.m.cls kX) a u0 sen).withEntry W.cur) :=
    ⟨{ ci198 := ci198, i198 := i198, fBack := fB }, ⟨hk198, hg198, ha198, hsB⟩, by
      have := fresh_default (c := P1.m.cls) tyB
      rw [htB] at this
      simpa [preparedCellV, Cell.setSlot, Cell.withEntry, Array.getElem?_setIfInBounds, bC, bS, bP, bC.symm, bS.symm, bP.symm, defaultValue] using this, fun _ _ => rfl⟩
  obtain ⟨tm, methC, cdC, kC, vm₁, hnC, -, -, -, -, -, -, -, hW₁, st1⟩ := Steps.initColdS (tb := p.tables) (e := e) (below := below) (s := s) (U := W) X.here hexec X.warmed hpl hown (t := Bundle.initS cls) rfl rfl (Bundle.fit_spec hcls).2
    (a' (.methodLink own ic (Bundle.initS cls)) (by simp [Bundle.ownAtoms])) (h (.instanceMethod (Bundle.initS cls)) (by cases names <;> simp [Bundle.ownAtoms, Bundle.chainSAtoms, Bundle.passSAtoms])) (bytes := Bundle.six) (maxL := 2) (h (.code (Bundle.initS cls) Bundle.six 2 none) (by cases names <;> simp [Bundle.ownAtoms, Bundle.chainSAtoms, Bundle.passSAtoms]))
    (f := g) hg (a := a) (msg := msg) (rest := .ref a :: rest) hstack hd6
  cases Option.some.inj (hnC.symm.trans hP1m)
  have X₁ := X.noted hW₁
  obtain ⟨vm₂, X₂, st2⟩ := X₁.ctorMessageOffV hexec (g := { g with stack := .ref a :: rest }) hg hsize T L Z LZ M LM (P1 :: Ps)
    (fun P hP => by rcases List.mem_cons.mp hP with rfl | hP; exact L1; exact hL P hP) ⟨hlink1, hlink⟩ (u0 := u0) (sen := sen) (self := a) hmsg (cell := freshCell P1.m.cls kX) (cellS := cellS)
    hcell (fun _ => by simp) (by simp) rfl rfl hsel0 hselF hcellS hneS hknownS (by rw [hkeep _ (hout' _)]; exact hu0) (by rw [hkeep _ (hout' _)]; exact hsen)
    (Takes.of_laid hk hord tyC (by rw [Y.causeType]; rfl)) (Takes.of_laid hk hord tyS (by rw [Y.stackType]; exact fits_refV_array _ u0)) (Takes.of_laid hk hord tyP (by rw [Y.suppType]; exact fits_refV_object _ sen))
    (Takes.of_laid hk hord tyM (by rw [Y.msgType]; exact fits_refV_object _ ⟨msg, hmsg⟩)) Y.objLocals hskip htr [] hd6
    (by simp only [List.length_cons, hlen]; omega) (by simp only [List.length_cons, hlen]; exact hRlocals)
  have hlt : a < ((W.setVm vm₁).setVm vm₂).heap.size := (Array.getElem?_eq_some_iff.mp hcell).1
  refine ⟨(W.setVm vm₁).setVm vm₂, _, _, X₂, fun y hy => ?_, hlt, rfl, rfl, fun target hwalk => st1 _ (fun acts => ?_)⟩
  · simp only [List.mem_cons, List.not_mem_nil, or_false] at hy
    rcases hy with rfl | rfl | rfl | rfl | rfl <;> rfl
  · rw [doInvoke_state]
    exact st2 _ hwalk
set_option maxHeartbeats 1000000 in
theorem vx_ctorMade0 (X : Stand p l e R s m₀ args below meth c W locs cells slots) (hexec : p.tables.exec = Jvm.exec) (htr : e.platform.stackTraces = false) {own cls : String} {names : List String} {ic : Nat}
    (hown : s.vm.findClass own = some m₀.cls) (hcls : Bundle.fit cls = true) (hnames : ∀ n ∈ names, Bundle.fit n = true)
    (h : ∀ a ∈ Bundle.ownAtoms0 own ic cls names, a.before args s = true)
    (hlocs : ∀ x ∈ locs, ∀ cell, s.heap[x.base]? = some cell → cell.vm.isStatics = false)
    {a : Addr} {cX : ClassId} {kX : Class} (hfoundX : s.vm.findClass cls = some cX) (hkX : s.vm.classes[cX]? = some kX) (hcell : W.heap[a]? = some (freshCell cX kX)) (hnew : s.heap.size ≤ a)
    {g : JFrame} (hg : g.method = m₀) (hsize : g.locals.size = c.maxLocals) {rest : List Value} (hstack : g.stack = .ref a :: .ref a :: rest)
    (hd6 : decode c.code g.pc = .ok (.invokespecial ic, 3))
    (hRframes : names.length + 3 < R.frames) (hRlocals : 2 * g.monitorRoom + ((Value.ref a :: rest).map fun v => v.category).sum + (13 * (names.length + 1) + 41) ≤ R.locals) :
    ∃ (V : State) (ce : Cell) (L : List Loc), Stand p l e R s m₀ args below meth c (V.setCell a ce) (locs ++ L) cells slots ∧ (∀ y ∈ L, y.base = a) ∧ a < V.heap.size ∧ ce.cls = cX ∧ ce.vm = .none ∧
      ∀ target, Steps p.tables e below ((V.setCell a ce).setTop { g with stack := .ref a :: rest, pc := g.pc + 3 }) target → Steps p.tables e below (W.setTop g) target := by
  have howns : e.platform.frameOwnsMonitors = true := by rw [X.admits.platform]
  have hfin : e.platform.finalization = false := by rw [X.admits.platform]
  have hpl : e.platform.magicAccessors = ({} : Platform).magicAccessors := by rw [X.admits.platform]
  have a' : ∀ x, x ∈ Bundle.ownAtoms0 own ic cls names → x.holds args s none s [] = true := fun x hx => h x hx
  obtain ⟨T, Z, L, LZ, Y⟩ := ThrowableC.of_atoms (args := args) howns hfin hpl (fun x hx => h x (by simp [Bundle.ownAtoms0, hx]))
  obtain ⟨P1, Ps, hlen, L1, hL, hP1m, hlink1, hlink⟩ := Bundle.chain0 (args := args) hpl Y.init0 names cls hcls hnames (fun x hx => h x (by simp [Bundle.ownAtoms0, hx]))
  have hfound : s.vm.findClass cls = some P1.m.cls := findClass_of_methodNamed hP1m
  cases Option.some.inj (hfoundX.symm.trans hfound)
  obtain ⟨c1, kX', hc1, hk, hord, -, -, hn6⟩ := Cond.instantiable_spec (a' (.instantiable cls 6) (by simp [Bundle.ownAtoms0]))
  cases Option.some.inj (hc1.symm.trans hfound)
  cases Option.some.inj (hkX.symm.trans hk)
  have hsel0 : selectMethod e.platform s.vm P1.m.cls T.fill0 = .method T.fill0 := by
    obtain ⟨c2, r2, m2, q1, q2, q3, q4, -⟩ := Cond.selects_spec (a' (.selects cls Bundle.tFill0 Bundle.tFill0) (by simp [Bundle.ownAtoms0]))
    cases Option.some.inj (q1.symm.trans hfound)
    cases Option.some.inj (q2.symm.trans (State.methodFound?_of_named Y.fill0 (by decide)))
    cases Option.some.inj (q3.symm.trans Y.fill0)
    rw [Launch.admits_selectMethod X.admits]; exact q4
  have hselF : selectMethod e.platform s.vm P1.m.cls T.fill = .method T.fill := by
    obtain ⟨c2, r2, m2, q1, q2, q3, q4, -⟩ := Cond.selects_spec (a' (.selects cls Bundle.tFill Bundle.tFill) (by simp [Bundle.ownAtoms0]))
    cases Option.some.inj (q1.symm.trans hfound)
    cases Option.some.inj (q2.symm.trans (State.methodFound?_of_named Y.fill (by decide)))
    cases Option.some.inj (q3.symm.trans Y.fill)
    rw [Launch.admits_selectMethod X.admits]; exact q4
  obtain ⟨cellS0, hcS0, hiss⟩ := Y.statics
  obtain ⟨u0, hu0⟩ := Cond.staticRefV Y.unassigned L.unassignedStatic L.statics hcS0 hiss (a' (.isRef (.static Bundle.tN "UNASSIGNED_STACK" Bundle.steD)) (by simp [Bundle.ownAtoms0]))
  obtain ⟨sen, hsen⟩ := Cond.staticRefV Y.sentinel L.sentinelStatic L.statics hcS0 hiss (a' (.isRef (.static Bundle.tN "SUPPRESSED_SENTINEL" Bundle.listD)) (by simp [Bundle.ownAtoms0]))
  obtain ⟨ci198, i198, fB, hk198, hg198, ha198, hsB, -, hnB, htB, hffB⟩ := Cond.ownField (t := .object "java/lang/Object") Y.found L.cls (by decide +kernel) (a' (.fieldLink Bundle.tN 198 Bundle.tN "backtrace" "Ljava/lang/Object;") (by simp [Bundle.ownAtoms0])) (a' (.lays Bundle.tN Bundle.tN "backtrace" "Ljava/lang/Object;") (by simp [Bundle.ownAtoms0])) e.platform hpl
  obtain ⟨cellS, hcS', heS, -, hkeep⟩ := X.same.2.2.2.2.2 T.aS cellS0 hcS0
  have hcellS : W.heap[T.aS]? = some cellS := hcS'
  have hout' : ∀ i, (⟨T.aS, i⟩ : Loc) ∉ locs := fun i hmem => by
    have := hlocs _ hmem cellS0 hcS0
    rw [hiss] at this; cases this
  have hknownS : cellS.vm ≠ .unknown := by
    rw [heS]; intro hu
    rw [show cellS0.vm = .unknown from hu] at hiss
    cases hiss
  have hneS : T.aS ≠ a := Nat.ne_of_lt (Nat.lt_of_lt_of_le (Array.getElem?_eq_some_iff.mp hcS0).1 hnew)
  obtain ⟨iM, hffM⟩ := Y.msg
  obtain ⟨tyC, dC, hdC, hdnC⟩ := Cond.laysAt hfound hk Y.cause (a' (.lays cls Bundle.tN "cause" "Ljava/lang/Throwable;") (by simp [Bundle.ownAtoms0]))
  obtain ⟨tyS, dS, hdS, hdnS⟩ := Cond.laysAt hfound hk Y.stack (a' (.lays cls Bundle.tN "stackTrace" Bundle.steD) (by simp [Bundle.ownAtoms0]))
  obtain ⟨tyP, dP, hdP, hdnP⟩ := Cond.laysAt hfound hk Y.supp (a' (.lays cls Bundle.tN "suppressedExceptions" Bundle.listD) (by simp [Bundle.ownAtoms0]))
  obtain ⟨tyM, dM, hdM, hdnM⟩ := Cond.laysAt hfound hk hffM (a' (.lays cls Bundle.tN "detailMessage" "Ljava/lang/String;") (by simp [Bundle.ownAtoms0]))
  obtain ⟨tyB, dB, hdB, hdnB⟩ := Cond.laysAt hfound hk hffB (a' (.lays cls Bundle.tN "backtrace" "Ljava/lang/Object;") (by simp [Bundle.ownAtoms0]))
  have bC := Cond.laysApart hdB hdC hdnB hdnC (by rw [hnB, Y.causeName]; decide)
  have bS := Cond.laysApart hdB hdS hdnB hdnS (by rw [hnB, Y.stackName]; decide)
  have bP := Cond.laysApart hdB hdP hdnB hdnP (by rw [hnB, Y.suppName]; decide)
  have hskip : SkipFacts T e.platform s (fun u => u) u0 ((preparedCellV T.toThrowableT (freshCell P1.m.cls kX) a u0 sen).withEntry W.cur) :=
    ⟨{ ci198 := ci198, i198 := i198, fBack := fB }, ⟨hk198, hg198, ha198, hsB⟩, by
      have := fresh_default (c := P1.m.cls) tyB
      rw [htB] at this
      simpa [preparedCellV, Cell.setSlot, Cell.withEntry, Array.getElem?_setIfInBounds, bC, bS, bP, bC.symm, bS.symm, bP.symm, defaultValue] using this, fun _ _ => rfl⟩
  obtain ⟨tm, methC, cdC, kC, vm₁, hnC, -, -, -, -, -, -, -, hW₁, st1⟩ := Steps.initCold (tb := p.tables) (e := e) (below := below) (s := s) (U := W) X.here hexec X.warmed hpl hown (t := Bundle.init0 cls) rfl rfl (Bundle.fit_spec hcls).2
    (a' (.methodLink own ic (Bundle.init0 cls)) (by simp [Bundle.ownAtoms0])) (h (.instanceMethod (Bundle.init0 cls)) (by cases names <;> simp [Bundle.ownAtoms0, Bundle.chain0Atoms, Bundle.passAtoms])) (bytes := Bundle.five) (maxL := 1) (h (.code (Bundle.init0 cls) Bundle.five 1 none) (by cases names <;> simp [Bundle.ownAtoms0, Bundle.chain0Atoms, Bundle.passAtoms]))
    (f := g) hg (a := a) (rest := .ref a :: rest) hstack hd6
  cases Option.some.inj (hnC.symm.trans hP1m)
  have X₁ := X.noted hW₁
  obtain ⟨vm₂, X₂, st2⟩ := X₁.ctorPlainOffV hexec (g := { g with stack := .ref a :: rest }) hg hsize T L Z LZ (P1 :: Ps)
    (fun P hP => by rcases List.mem_cons.mp hP with rfl | hP; exact L1; exact hL P hP) ⟨hlink1, hlink⟩ (u0 := u0) (sen := sen) (self := a) (cell := freshCell P1.m.cls kX) (cellS := cellS)
    hcell (fun _ => by simp) (by simp) rfl rfl hsel0 hselF hcellS hneS hknownS (by rw [hkeep _ (hout' _)]; exact hu0) (by rw [hkeep _ (hout' _)]; exact hsen)
    (Takes.of_laid hk hord tyC (by rw [Y.causeType]; rfl)) (Takes.of_laid hk hord tyS (by rw [Y.stackType]; exact fits_refV_array _ u0)) (Takes.of_laid hk hord tyP (by rw [Y.suppType]; exact fits_refV_object _ sen)) Y.objLocals hskip htr [] hd6
    (by simp only [List.length_cons, hlen]; omega) (by simp only [List.length_cons, hlen]; exact hRlocals)
  have hlt : a < ((W.setVm vm₁).setVm vm₂).heap.size := (Array.getElem?_eq_some_iff.mp hcell).1
  refine ⟨(W.setVm vm₁).setVm vm₂, _, _, X₂, fun y hy => ?_, hlt, rfl, rfl, fun target hwalk => st1 _ (fun acts => ?_)⟩
  · simp only [List.mem_cons, List.not_mem_nil, or_false] at hy
    rcases hy with rfl | rfl | rfl | rfl <;> rfl
  · rw [doInvoke_state]
    exact st2 _ hwalk
end VXK
section VXK2
variable {p : Program} {l : Launch} {e : Env} {R : Room} {s : State} {m : MethodId} {args : Array Value} {below : List Frame} {meth : Method} {c : Code} {H : Heap} {locs : List Loc} {cells slots : Nat} {Q : State → Prop}
variable {ls : Array Slot} {rest : List Value} {D : va_G} {cl : List vw_C} {tys : List (ClassId × FieldType)} {ws : va_W}
/-- 'new E("text")' that isn't thrown at once: the object goes on the stack -/
theorem vx_makeS {cc : ByteArray} {pc : Nat} (hexec : p.tables.exec = Jvm.exec) (hb : c.code = cc) (hl : l.stackTraces = false) {own cls text : String} {names : List String} {ik is ic sa ci : Nat} {A : Nat → Prop} {T0 : u_T}
    (hown : s.vm.findClass own = some m.cls) (hcls : Bundle.fit cls = true) (hnames : ∀ n ∈ names, Bundle.fit n = true)
    (hk : (Cond.classLink own ik cls).before args s = true) (hini : (Cond.initialized cls).before args s = true) (hstr : vk_R own is text sa s) (hat : ∀ w ∈ vx_atS own ic cls names, w.before args s = true)
    (hgood : ∀ w ∈ Cond.classLink own ik cls :: Cond.initialized cls :: vx_atS own ic cls names, vx_ot w = true)
    (hU : vx_Zq Bundle.tN "UNASSIGNED_STACK" Bundle.steD A s s.heap) (hN : vx_Zq Bundle.tN "SUPPRESSED_SENTINEL" Bundle.listD A s s.heap) (hS : va_S A s.heap H locs) (hsize : ls.size = c.maxLocals)
    (d0 : decode cc pc = .ok (.new ik, 3)) (d3 : decode cc (pc + 3) = .ok (.dup, 1)) (d4 : decode cc (pc + 4) = .ok (.ldc is, 2)) (d6 : decode cc (pc + 6) = .ok (.invokespecial ic, 3))
    (hK : va_K D cl tys s) (hP : va_P D cl ws H) (hD : va_D A ws) (hA : ∀ q, s.heap.size ≤ q → A q) (hc : cl[ci]? = some (cls, T0, 0))
    (hRframes : names.length + 3 < R.frames) (hRlocals : (rest.map fun v => v.category).sum + (13 * (names.length + 1) + 43) ≤ R.locals) (hRcells : cells + 1 ≤ R.cells) (hRslots : slots + 6 ≤ R.slots)
    (kk : ∀ (q : Nat) (H1 : Heap), va_P D cl (ws ++ [(q, .inr (ci, []))]) H1 → va_D A (ws ++ [(q, .inr (ci, []))]) → va_S A s.heap H1 locs → W p l e R s m args below meth c H1 locs (cells + 1) (slots + 6) Q (F0 m (pc + 9) ls (.ref q :: rest))) :
    W p l e R s m args below meth c H locs cells slots Q (F0 m pc ls rest) := by
  intro T hT X
  subst hT
  have htr : e.platform.stackTraces = false := (show e.platform.stackTraces = l.stackTraces by rw [X.admits.platform]).trans hl
  have Y := vx_rebase X (R' := { frames := R.frames, locals := R.locals, cells := 1, slots := 6 }) (Nat.le_refl _) (Nat.le_refl _) hRcells hRslots
  obtain ⟨s', hA'⟩ : ∃ z, z = (T.setVm s.vm).setFrames (.invoking m args :: below) := ⟨_, rfl⟩
  rw [← hA'] at Y
  have hvm : s'.vm = s.vm := by rw [hA']; rfl
  have hhp : s'.heap = T.heap := by rw [hA']; rfl
  have hW0 : s.WarmedH s'.vm := by rw [hvm]; exact State.WarmedH.refl s
  have hat' : ∀ w ∈ vx_atS own ic cls names, w.before args s' = true := fun w hw => vx_ot_at hW0 hvm.symm (hgood w (List.mem_cons_of_mem _ (List.mem_cons_of_mem _ hw))) (hat w hw)
  have hk' : (Cond.classLink own ik cls).before args s' = true := vx_ot_at hW0 hvm.symm (hgood _ List.mem_cons_self) hk
  have hini' : (Cond.initialized cls).before args s' = true := vx_ot_at hW0 hvm.symm (hgood _ (List.mem_cons_of_mem _ List.mem_cons_self)) hini
  have hU' : vx_Zq Bundle.tN "UNASSIGNED_STACK" Bundle.steD A s' s'.heap := by rw [hhp]; exact vx_Zq.moved hW0.alike (hU.kept hS.2.1)
  have hN' : vx_Zq Bundle.tN "SUPPRESSED_SENTINEL" Bundle.listD A s' s'.heap := by rw [hhp]; exact vx_Zq.moved hW0.alike (hN.kept hS.2.1)
  have h : ∀ w ∈ Bundle.ownAtoms own ic cls names, w.before args s' = true := vx_own hat' (vx_isRefq hU'.1) (vx_isRefq hN'.1) hU'.2.word hN'.2.word
  have hown' : s'.vm.findClass own = some m.cls := by rw [hvm]; exact hown
  have hins : (Cond.instantiable cls 6).before args s' = true := h _ (by simp [Bundle.ownAtoms])
  obtain ⟨vm₁, cX, kX, hfX, hkX, -, -, X₁, st1⟩ := Y.newCold hexec (own := own) (C := cls) (index := ik) (n := 6) hown' hk' hins hini'
    (g := F0 m pc ls rest) rfl (by rw [hb]; exact d0) (Nat.le_refl _) (Nat.le_refl _)
  generalize hT1 : (T.setVm vm₁).pushCell { cls := cX, slots := kX.instanceTypes.map defaultValue, vm := .none } = T1 at X₁ st1
  have hcat : (Value.ref T.heap.size).category = 1 := rfl
  have hcellA : T1.heap[T.heap.size]? = some (freshCell cX kX) := by rw [← hT1]; exact State.heap_pushCell_size _ _
  have d3' : decode c.code (pc + 3) = .ok (.dup, 1) := by rw [hb]; exact d3
  have d4' : decode c.code (pc + 4) = .ok (.ldc is, 2) := by rw [hb]; exact d4
  have hstr' : vk_R own is text sa s' := vk_R.warm hW0 hstr
  obtain ⟨V, ce, L, Z, hL, hlt, hcl9, hvm9, st⟩ := vx_ctorMadeS X₁ hexec htr (own := own) (cls := cls) (names := names) (ic := ic) hown' hcls hnames h (fun x hx => nomatch hx) hfX hkX hcellA (by rw [hhp]; exact Nat.le_refl _) (msg := .ref sa) rfl
    (g := { method := m, pc := pc + 6, locals := ls, stack := .ref sa :: .ref T.heap.size :: .ref T.heap.size :: rest, locked := none }) rfl hsize (rest := rest) rfl
    (by rw [hb]; exact d6) hRframes (by simp only [List.map_cons, List.sum_cons, hcat]; omega)
  have Z0 := Stand.forget (locs := []) Z (fun y hy => by rw [hL y hy, hhp]; exact Nat.le_refl _)
  obtain ⟨f1, f2⟩ := vx_frame Z0.same
  rw [hhp] at f1 f2
  have hcid : ce.cls = D.1 ci := by
    rw [hcl9]
    have h1 := (hK.1 ci _ hc).2.1
    rw [hvm] at hfX
    exact Option.some.inj (hfX.symm.trans h1)
  have hh : (V.setCell T.heap.size ce).heap[T.heap.size]? = some ce := heapAt_setCell_self (s := V) ce hlt
  subst hA'
  have X5 := vx_back9 X Y Z0
  have X6 : Stand p l e R s m args below meth c (V.setCell T.heap.size ce) locs (cells + 1) (slots + 6) := { X5 with same := X5.same.mono (by omega) (by omega) }
  have hk9 : ∀ (k : Nat) (x : Nat × va_E), ws[k]? = some x → (V.setCell T.heap.size ce).heap[x.1]? = T.heap[x.1]? := fun k x hx => f2 x.1 ((hP k x hx).lt) (fun z hz => nomatch hz)
  obtain ⟨t, a1, b1⟩ := kk T.heap.size (V.setCell T.heap.size ce).heap ((hP.kept hk9).app (fun k x hx => by
      have hz : k < 1 := (List.getElem?_eq_some_iff.mp hx).1
      rw [show k = 0 by omega] at hx
      cases hx
      exact ⟨_, hc, ce, hh, hcid, hvm9, fun k hk => absurd hk (Nat.not_lt_zero k)⟩)) (hD.push hP rfl (hA _ hS.1)) ⟨Nat.le_trans hS.1 f1, fun q h1 h2 => (f2 q (Nat.lt_of_lt_of_le h1 hS.1) (fun z hz => nomatch hz)).trans (hS.2.1 q h1 h2), hS.2.2⟩ _ rfl X6
  refine ⟨t, st1 _ ?_, b1⟩
  show Steps p.tables e below (T1.setTop { method := m, pc := pc + 3, locals := ls, stack := .ref T.heap.size :: rest, locked := none }) _
  jvm_step X₁.here [X₁.here.top, hexec, d3', Value.category]
  exact X₁.ldcString hexec (own := own) (text := text) (index := is) (a := sa) hown' hstr'.1 hstr'.2
    (g := { method := m, pc := pc + 4, locals := ls, stack := .ref T.heap.size :: .ref T.heap.size :: rest, locked := none }) rfl d4' _ (st _ a1)
/-- 'new E()' that isn't thrown at once: the object goes on the stack -/
theorem vx_make0 {cc : ByteArray} {pc : Nat} (hexec : p.tables.exec = Jvm.exec) (hb : c.code = cc) (hl : l.stackTraces = false) {own cls : String} {names : List String} {ik ic ci : Nat} {A : Nat → Prop} {T0 : u_T}
    (hown : s.vm.findClass own = some m.cls) (hcls : Bundle.fit cls = true) (hnames : ∀ n ∈ names, Bundle.fit n = true)
    (hk : (Cond.classLink own ik cls).before args s = true) (hini : (Cond.initialized cls).before args s = true) (hat : ∀ w ∈ vx_at0 own ic cls names, w.before args s = true)
    (hgood : ∀ w ∈ Cond.classLink own ik cls :: Cond.initialized cls :: vx_at0 own ic cls names, vx_ot w = true)
    (hU : vx_Zq Bundle.tN "UNASSIGNED_STACK" Bundle.steD A s s.heap) (hN : vx_Zq Bundle.tN "SUPPRESSED_SENTINEL" Bundle.listD A s s.heap) (hS : va_S A s.heap H locs) (hsize : ls.size = c.maxLocals)
    (d0 : decode cc pc = .ok (.new ik, 3)) (d3 : decode cc (pc + 3) = .ok (.dup, 1)) (d4 : decode cc (pc + 4) = .ok (.invokespecial ic, 3))
    (hK : va_K D cl tys s) (hP : va_P D cl ws H) (hD : va_D A ws) (hA : ∀ q, s.heap.size ≤ q → A q) (hc : cl[ci]? = some (cls, T0, 0))
    (hRframes : names.length + 3 < R.frames) (hRlocals : (rest.map fun v => v.category).sum + (13 * (names.length + 1) + 42) ≤ R.locals) (hRcells : cells + 1 ≤ R.cells) (hRslots : slots + 6 ≤ R.slots)
    (kk : ∀ (q : Nat) (H1 : Heap), va_P D cl (ws ++ [(q, .inr (ci, []))]) H1 → va_D A (ws ++ [(q, .inr (ci, []))]) → va_S A s.heap H1 locs → W p l e R s m args below meth c H1 locs (cells + 1) (slots + 6) Q (F0 m (pc + 7) ls (.ref q :: rest))) :
    W p l e R s m args below meth c H locs cells slots Q (F0 m pc ls rest) := by
  intro T hT X
  subst hT
  have htr : e.platform.stackTraces = false := (show e.platform.stackTraces = l.stackTraces by rw [X.admits.platform]).trans hl
  have Y := vx_rebase X (R' := { frames := R.frames, locals := R.locals, cells := 1, slots := 6 }) (Nat.le_refl _) (Nat.le_refl _) hRcells hRslots
  obtain ⟨s', hA'⟩ : ∃ z, z = (T.setVm s.vm).setFrames (.invoking m args :: below) := ⟨_, rfl⟩
  rw [← hA'] at Y
  have hvm : s'.vm = s.vm := by rw [hA']; rfl
  have hhp : s'.heap = T.heap := by rw [hA']; rfl
  have hW0 : s.WarmedH s'.vm := by rw [hvm]; exact State.WarmedH.refl s
  have hat' : ∀ w ∈ vx_at0 own ic cls names, w.before args s' = true := fun w hw => vx_ot_at hW0 hvm.symm (hgood w (List.mem_cons_of_mem _ (List.mem_cons_of_mem _ hw))) (hat w hw)
  have hk' : (Cond.classLink own ik cls).before args s' = true := vx_ot_at hW0 hvm.symm (hgood _ List.mem_cons_self) hk
  have hini' : (Cond.initialized cls).before args s' = true := vx_ot_at hW0 hvm.symm (hgood _ (List.mem_cons_of_mem _ List.mem_cons_self)) hini
  have hU' : vx_Zq Bundle.tN "UNASSIGNED_STACK" Bundle.steD A s' s'.heap := by rw [hhp]; exact vx_Zq.moved hW0.alike (hU.kept hS.2.1)
  have hN' : vx_Zq Bundle.tN "SUPPRESSED_SENTINEL" Bundle.listD A s' s'.heap := by rw [hhp]; exact vx_Zq.moved hW0.alike (hN.kept hS.2.1)
  have h : ∀ w ∈ Bundle.ownAtoms0 own ic cls names, w.before args s' = true := vx_own hat' (vx_isRefq hU'.1) (vx_isRefq hN'.1) hU'.2.word hN'.2.word
  have hown' : s'.vm.findClass own = some m.cls := by rw [hvm]; exact hown
  have hins : (Cond.instantiable cls 6).before args s' = true := h _ (by simp [Bundle.ownAtoms0])
  obtain ⟨vm₁, cX, kX, hfX, hkX, -, -, X₁, st1⟩ := Y.newCold hexec (own := own) (C := cls) (index := ik) (n := 6) hown' hk' hins hini'
    (g := F0 m pc ls rest) rfl (by rw [hb]; exact d0) (Nat.le_refl _) (Nat.le_refl _)
  generalize hT1 : (T.setVm vm₁).pushCell { cls := cX, slots := kX.instanceTypes.map defaultValue, vm := .none } = T1 at X₁ st1
  have hcat : (Value.ref T.heap.size).category = 1 := rfl
  have hcellA : T1.heap[T.heap.size]? = some (freshCell cX kX) := by rw [← hT1]; exact State.heap_pushCell_size _ _
  have d3' : decode c.code (pc + 3) = .ok (.dup, 1) := by rw [hb]; exact d3
  obtain ⟨V, ce, L, Z, hL, hlt, hcl9, hvm9, st⟩ := vx_ctorMade0 X₁ hexec htr (own := own) (cls := cls) (names := names) (ic := ic) hown' hcls hnames h (fun x hx => nomatch hx) hfX hkX hcellA (by rw [hhp]; exact Nat.le_refl _)
    (g := { method := m, pc := pc + 4, locals := ls, stack := .ref T.heap.size :: .ref T.heap.size :: rest, locked := none }) rfl hsize (rest := rest) rfl
    (by rw [hb]; exact d4) hRframes (by simp only [List.map_cons, List.sum_cons, hcat]; omega)
  have Z0 := Stand.forget (locs := []) Z (fun y hy => by rw [hL y hy, hhp]; exact Nat.le_refl _)
  obtain ⟨f1, f2⟩ := vx_frame Z0.same
  rw [hhp] at f1 f2
  have hcid : ce.cls = D.1 ci := by
    rw [hcl9]
    have h1 := (hK.1 ci _ hc).2.1
    rw [hvm] at hfX
    exact Option.some.inj (hfX.symm.trans h1)
  have hh : (V.setCell T.heap.size ce).heap[T.heap.size]? = some ce := heapAt_setCell_self (s := V) ce hlt
  subst hA'
  have X5 := vx_back9 X Y Z0
  have X6 : Stand p l e R s m args below meth c (V.setCell T.heap.size ce) locs (cells + 1) (slots + 6) := { X5 with same := X5.same.mono (by omega) (by omega) }
  have hk9 : ∀ (k : Nat) (x : Nat × va_E), ws[k]? = some x → (V.setCell T.heap.size ce).heap[x.1]? = T.heap[x.1]? := fun k x hx => f2 x.1 ((hP k x hx).lt) (fun z hz => nomatch hz)
  obtain ⟨t, a1, b1⟩ := kk T.heap.size (V.setCell T.heap.size ce).heap ((hP.kept hk9).app (fun k x hx => by
      have hz : k < 1 := (List.getElem?_eq_some_iff.mp hx).1
      rw [show k = 0 by omega] at hx
      cases hx
      exact ⟨_, hc, ce, hh, hcid, hvm9, fun k hk => absurd hk (Nat.not_lt_zero k)⟩)) (hD.push hP rfl (hA _ hS.1)) ⟨Nat.le_trans hS.1 f1, fun q h1 h2 => (f2 q (Nat.lt_of_lt_of_le h1 hS.1) (fun z hz => nomatch hz)).trans (hS.2.1 q h1 h2), hS.2.2⟩ _ rfl X6
  refine ⟨t, st1 _ ?_, b1⟩
  show Steps p.tables e below (T1.setTop { method := m, pc := pc + 3, locals := ls, stack := .ref T.heap.size :: rest, locked := none }) _
  jvm_step X₁.here [X₁.here.top, hexec, d3', Value.category]
  exact st _ a1
/-- 'throw x' of an object that was made before -/
theorem vx_athrow {cc : ByteArray} {pc : Nat} (hexec : p.tables.exec = Jvm.exec) (hb : c.code = cc) {q : Addr} (hdg : decode cc pc = .ok (.athrow, 1)) (k : vx_W p l e R s m args below meth c H locs cells slots Q (F0 m pc ls rest) q) : W p l e R s m args below meth c H locs cells slots Q (F0 m pc ls (.ref q :: rest)) := by
  intro T hT X
  obtain ⟨t, st, hq⟩ := k T hT X
  refine ⟨t, ?_, hq⟩
  have hdg' : decode c.code pc = .ok (.athrow, 1) := by rw [hb]; exact hdg
  jvm_step X.here [X.here.top, hexec, hdg', athrow.wp_sem]
  exact st
end VXK2
/-! ===== END ===== -/
/-! ===== BEGIN a constructor that throws (launches without stack traces) ===== -/
section VXIA
variable {p : Program} {l : Launch} {e : Env} {R : Room} {s : State} {m : MethodId} {args : Array Value} {below : List Frame} {meth : Method} {c : Code} {T : State} {locs : List Loc} {cells slots : Nat}
theorem vx_callI (X : Stand p l e R s m args below meth c T locs cells slots) (hexec : p.tables.exec = Jvm.exec) {own : String} {index : Nat} {y : MethodName} {bytes : ByteArray} {maxL : Nat}
    (hown : s.vm.findClass own = some m.cls) (hy1 : y.name = "<init>") (hlink : (Cond.methodLink own index y).before args s = true) (hinst : (Cond.instanceMethod y).before args s = true)
    (hcode : (Cond.code y bytes maxL none).before args s = true) (hy : y.cls ≠ "java/lang/invoke/MethodHandle" ∧ y.cls ≠ "java/lang/invoke/VarHandle")
    {W9 : Nat} {Pre : Pt → Array Value → Prop} {Post : Pt → Array Value → Option Value → Pt → Prop} {PostX : Pt → Array Value → Addr → Pt → Prop} (hK : vx_Back l R p e below s args y 3 W9 Pre Post PostX)
    {g : JFrame} (hg : g.method = m) (hsize : g.locals.size = c.maxLocals) {a : Addr} {argsL rest : List Value} (hlen : ∀ sig, parseMethodDescriptor y.desc = some sig → argsL.length = sig.parameters.length)
    (hstack : g.stack = argsL.reverse ++ .ref a :: rest) (hW : 2 * g.monitorRoom + (rest.map fun v => v.category).sum ≤ W9) (hdg : decode c.code g.pc = .ok (.invokespecial index, 3))
    (hpre : ∀ vm₁, s.WarmedH vm₁ → Pre ⟨T.setVm vm₁, locs, cells, slots⟩ (Value.ref a :: argsL).toArray) :
    (∃ (v : Option Value) (vm₁ : Vm) (B : Pt), s.WarmedH vm₁ ∧ Stand p l e R s m args below meth c B.U B.locs B.cells B.slots ∧ Post ⟨T.setVm vm₁, locs, cells, slots⟩ (Value.ref a :: argsL).toArray v B ∧
      ∀ target, Steps p.tables e below (B.U.setTop { g with pc := g.pc + 3, stack := v.toList ++ rest }) target → Steps p.tables e below (T.setTop g) target) ∨
    (∃ (q : Addr) (vm₁ : Vm) (B : Pt), s.WarmedH vm₁ ∧ Stand p l e R s m args below meth c B.U B.locs B.cells B.slots ∧ PostX ⟨T.setVm vm₁, locs, cells, slots⟩ (Value.ref a :: argsL).toArray q B ∧
      Steps p.tables e below (T.setTop g) ((B.U.setTop { g with stack := rest }).pushFrame (.throwing q))) := by
  subst hg
  have hpl : e.platform.magicAccessors = ({} : Platform).magicAccessors := by rw [X.admits.platform]
  obtain ⟨mk, methM, cM, kP, vm₁, hnamed, hmethM, hcodeM, -, hlocalsM, -, hkP, -, hW₁, hstep₁⟩ := Steps.initColdArgs (e := e) X.here hexec X.warmed hpl hown hy1 hy hlink hinst hcode (f := g) rfl hlen hstack hdg
  have X₁ := X.noted hW₁
  rcases hK g.method meth c ⟨T.setVm vm₁, locs, cells, slots⟩ { g with stack := rest } (.invokespecial index) mk (Value.ref a :: argsL).toArray X₁ rfl hsize hdg hW (X₁.named hnamed) (hpre vm₁ X₁.warmed) with ⟨v, B, X', hpost, hsteps⟩ | ⟨q, B, X', hpost, hsteps⟩
  · exact Or.inl ⟨v, vm₁, B, X₁.warmed, X', hpost, fun target h => hstep₁ _ fun acts => by rw [doInvoke_state]; exact hsteps.trans h⟩
  · exact Or.inr ⟨q, vm₁, B, X₁.warmed, X', hpost, hstep₁ _ fun acts => by rw [doInvoke_state]; exact hsteps⟩
end VXIA
section VXIB
variable {p : Program} {l : Launch} {e : Env} {R : Room} {s : State} {m : MethodId} {args : Array Value} {below : List Frame} {meth : Method} {c : Code} {H : Heap} {locs : List Loc} {cells slots : Nat}
variable {y : MethodName} {bytes cc : ByteArray} {maxL nL mc ms n index : Nat} {ret : Option FieldType} {ws : List Cond} {rm : Room} {Pc : Array Value → State → Prop} {Qc : Array Value → State → Outcome → State → Prop} {XC : String → State → State → Prop} {free : Addr → Prop} {Ts : List Cond} {own C : String} {b : Addr} {As rest : List Value} {g : JFrame}
theorem vx_runI (S : CallFix p m c cc nL s args Ts own) (hM : vx_Met l y ws rm Pc Qc XC mc ms free) (cw : CallB R s args own index y bytes maxL none ws rm mc ms n ∧ y.name = "<init>" ∧ (Cond.instanceMethod y).before args s = true) (hp : PreS s H Pc (.ref b :: As))
    (hg : g.method = m) (hn : As.length = n) (hsize : g.locals.size = nL) (hstack : g.stack = As.reverse ++ .ref b :: rest) (hW : 2 * g.monitorRoom + (rest.map fun v => v.category).sum ≤ 8) (hdg : decode cc g.pc = .ok (.invokespecial index, 3)) (hf : cells + mc ≤ R.cells ∧ slots + ms ≤ R.slots) :
    vx_Run p l e R s m args below meth c H locs cells slots mc ms g rest (Qc (Value.ref b :: As).toArray) XC free := by
  have hK : vx_Back l R p e below s args y 3 8 (PreOf R mc ms Pc) (PostOf Qc mc ms free) (vx_Post XC mc ms free) := vx_callBack cw.1 hM hp.1
  obtain ⟨⟨-, -, -, -, -, -, hcode, -, hy, hlen, hl⟩, hy1, hin⟩ := cw
  obtain ⟨hx, hb, hml, ho, -⟩ := S
  have hPc := hp.2
  intro T hT X
  rcases vx_callI X hx (bytes := bytes) (maxL := maxL) ho hy1 hl hin hcode hy hK hg (hsize.trans hml.symm) (a := b) (argsL := As) (rest := rest) (fun sig h => hn.trans (hlen sig h)) hstack hW (by rw [hb]; exact hdg)
    (fun vm₁ hW₁ => ⟨hf.1, hf.2, hPc (T.setVm vm₁) hT hW₁⟩) with ⟨v, vm₁, ⟨U', l2, c2, s2⟩, hW₁, X', ⟨g', mk, t, L, e1, e2, hq, h1, hL, h2, h3⟩, st⟩ | ⟨q, vm₁, ⟨U', l2, c2, s2⟩, hW₁, X', ⟨g', mk, t, L, E, ce, e1, e2, hq, hce, hcv, hcl, h1, hL, h2, h3⟩, st⟩
  · dsimp only [Pt.U, Pt.locs, Pt.cells, Pt.slots] at X' e1 e2 h1 h2 h3 st
    subst h1; subst h2; subst h3
    exact Or.inl ⟨v, (T.setVm vm₁).calling g' mk (Value.ref b :: As).toArray, t, U', L, hT, X', hL, e1, e2, hq, st⟩
  · dsimp only [Pt.U, Pt.locs, Pt.cells, Pt.slots] at X' e1 e2 h1 h2 h3 st hcl
    subst h1; subst h2; subst h3
    exact Or.inr ⟨q, (T.setVm vm₁).calling g' mk (Value.ref b :: As).toArray, t, U', L, E, ce, hT, X', hL, e1, e2, hq, hce, hcv, vx_cls hW₁ hcl, st⟩
end VXIB
/-! ===== END ===== -/
/-! ===== BEGIN a private constructor of a nest mate that throws ===== -/
section VXIC
variable {p : Program} {l : Launch} {e : Env} {R : Room} {s : State} {m : MethodId} {args : Array Value} {below : List Frame} {meth : Method} {c : Code} {T : State} {locs : List Loc} {cells slots : Nat}
theorem vx_callIN (X : Stand p l e R s m args below meth c T locs cells slots) (hexec : p.tables.exec = Jvm.exec) {own : String} {index : Nat} {host : String} {y : MethodName} {bytes : ByteArray} {maxL : Nat}
    (hown : s.vm.findClass own = some m.cls) (hy1 : y.name = "<init>") (hlink : (Cond.methodLinkNest own index y host).before args s = true) (hinst : (Cond.instanceMethod y).before args s = true)
    (hcode : (Cond.code y bytes maxL none).before args s = true) (hy : y.cls ≠ "java/lang/invoke/MethodHandle" ∧ y.cls ≠ "java/lang/invoke/VarHandle")
    {W9 : Nat} {Pre : Pt → Array Value → Prop} {Post : Pt → Array Value → Option Value → Pt → Prop} {PostX : Pt → Array Value → Addr → Pt → Prop} (hK : vx_Back l R p e below s args y 3 W9 Pre Post PostX)
    {g : JFrame} (hg : g.method = m) (hsize : g.locals.size = c.maxLocals) {a : Addr} {argsL rest : List Value} (hlen : ∀ sig, parseMethodDescriptor y.desc = some sig → argsL.length = sig.parameters.length)
    (hstack : g.stack = argsL.reverse ++ .ref a :: rest) (hW : 2 * g.monitorRoom + (rest.map fun v => v.category).sum ≤ W9) (hdg : decode c.code g.pc = .ok (.invokespecial index, 3))
    (hpre : ∀ vm₁, s.WarmedH vm₁ → Pre ⟨T.setVm vm₁, locs, cells, slots⟩ (Value.ref a :: argsL).toArray) :
    (∃ (v : Option Value) (vm₁ : Vm) (B : Pt), s.WarmedH vm₁ ∧ Stand p l e R s m args below meth c B.U B.locs B.cells B.slots ∧ Post ⟨T.setVm vm₁, locs, cells, slots⟩ (Value.ref a :: argsL).toArray v B ∧
      ∀ target, Steps p.tables e below (B.U.setTop { g with pc := g.pc + 3, stack := v.toList ++ rest }) target → Steps p.tables e below (T.setTop g) target) ∨
    (∃ (q : Addr) (vm₁ : Vm) (B : Pt), s.WarmedH vm₁ ∧ Stand p l e R s m args below meth c B.U B.locs B.cells B.slots ∧ PostX ⟨T.setVm vm₁, locs, cells, slots⟩ (Value.ref a :: argsL).toArray q B ∧
      Steps p.tables e below (T.setTop g) ((B.U.setTop { g with stack := rest }).pushFrame (.throwing q))) := by
  subst hg
  have hpl : e.platform.magicAccessors = ({} : Platform).magicAccessors := by rw [X.admits.platform]
  obtain ⟨mk, methM, cM, kP, vm₁, hnamed, hmethM, hcodeM, -, hlocalsM, -, hkP, -, hW₁, hstep₁⟩ := Steps.initColdArgsNest (e := e) X.here hexec X.warmed hpl hown hy1 hy hlink hinst hcode (f := g) rfl hlen hstack hdg
  have X₁ := X.noted hW₁
  rcases hK g.method meth c ⟨T.setVm vm₁, locs, cells, slots⟩ { g with stack := rest } (.invokespecial index) mk (Value.ref a :: argsL).toArray X₁ rfl hsize hdg hW (X₁.named hnamed) (hpre vm₁ X₁.warmed) with ⟨v, B, X', hpost, hsteps⟩ | ⟨q, B, X', hpost, hsteps⟩
  · exact Or.inl ⟨v, vm₁, B, X₁.warmed, X', hpost, fun target h => hstep₁ _ fun acts => by rw [doInvoke_state]; exact hsteps.trans h⟩
  · exact Or.inr ⟨q, vm₁, B, X₁.warmed, X', hpost, hstep₁ _ fun acts => by rw [doInvoke_state]; exact hsteps⟩
end VXIC
section VXID
variable {p : Program} {l : Launch} {e : Env} {R : Room} {s : State} {m : MethodId} {args : Array Value} {below : List Frame} {meth : Method} {c : Code} {H : Heap} {locs : List Loc} {cells slots : Nat}
theorem vx_runIN {y : MethodName} {bytes cc : ByteArray} {maxL nL mc ms n index : Nat} {ws : List Cond} {rm : Room} {Pc : Array Value → State → Prop} {Qc : Array Value → State → Outcome → State → Prop} {XC : String → State → State → Prop} {free : Addr → Prop} {Ts : List Cond} {own host : String} {b : Addr} {As rest : List Value} {g : JFrame}
    (S : CallFix p m c cc nL s args Ts own) (hM : vx_Met l y ws rm Pc Qc XC mc ms free) (cw : va_CN R s args own index y host bytes maxL none ws rm mc ms n ∧ y.name = "<init>" ∧ (Cond.instanceMethod y).before args s = true) (hp : PreS s H Pc (.ref b :: As))
    (hg : g.method = m) (hn : As.length = n) (hsize : g.locals.size = nL) (hstack : g.stack = As.reverse ++ .ref b :: rest) (hW : 2 * g.monitorRoom + (rest.map fun v => v.category).sum ≤ 8) (hdg : decode cc g.pc = .ok (.invokespecial index, 3)) (hf : cells + mc ≤ R.cells ∧ slots + ms ≤ R.slots) :
    vx_Run p l e R s m args below meth c H locs cells slots mc ms g rest (Qc (Value.ref b :: As).toArray) XC free := by
  obtain ⟨⟨⟨hrc, hrs, hfr, hlo, hws, hcw⟩, hcode, hini, hy, hlen, hl⟩, hx1, hx2⟩ := cw
  have hK : vx_Back l R p e below s args y 3 8 (PreOf R mc ms Pc) (PostOf Qc mc ms free) (vx_Post XC mc ms free) := vx_back (bytes := bytes) (maxL := maxL) (ret := none) hM hp.1 hrc hrs hfr hlo hws hcw (fun a' U hW => word_at hW (Or.inl (by first | rfl | simp [Cond.onTables, Cond.keeps, Cond.steady])) hini)
  obtain ⟨hx, hb, hml, ho, -⟩ := S
  have hPc := hp.2
  intro T hT X
  rcases vx_callIN X hx (bytes := bytes) (maxL := maxL) ho hx1 hl hx2 hcode hy hK hg (hsize.trans hml.symm) (a := b) (argsL := As) (rest := rest) (fun sig h => hn.trans (hlen sig h)) hstack hW (by rw [hb]; exact hdg)
    (fun vm₁ hW₁ => ⟨hf.1, hf.2, hPc (T.setVm vm₁) hT hW₁⟩) with ⟨v, vm₁, ⟨U', l2, c2, s2⟩, hW₁, X', ⟨g', mk, t, L, e1, e2, hq, h1, hL, h2, h3⟩, st⟩ | ⟨q, vm₁, ⟨U', l2, c2, s2⟩, hW₁, X', ⟨g', mk, t, L, E, ce, e1, e2, hq, hce, hcv, hcl, h1, hL, h2, h3⟩, st⟩
  · dsimp only [Pt.U, Pt.locs, Pt.cells, Pt.slots] at X' e1 e2 h1 h2 h3 st
    subst h1; subst h2; subst h3
    exact Or.inl ⟨v, (T.setVm vm₁).calling g' mk (Value.ref b :: As).toArray, t, U', L, hT, X', hL, e1, e2, hq, st⟩
  · dsimp only [Pt.U, Pt.locs, Pt.cells, Pt.slots] at X' e1 e2 h1 h2 h3 st hcl
    subst h1; subst h2; subst h3
    exact Or.inr ⟨q, (T.setVm vm₁).calling g' mk (Value.ref b :: As).toArray, t, U', L, E, ce, hT, X', hL, e1, e2, hq, hce, hcv, vx_cls hW₁ hcl, st⟩
end VXID
/-! ===== END ===== -/
/-! ===== BEGIN a method of a class above, found by the receiver, that may throw (follows va_callVU, va_runU of this kit) ===== -/
section
variable {p : Program} {l : Launch} {e : Env} {R : Room} {s : State} {m : MethodId} {args : Array Value} {below : List Frame} {meth : Method} {c : Code} {H : Heap} {locs : List Loc} {cells slots : Nat}
theorem vx_callVU {T : State} {locs : List Loc} {cells slots : Nat} (X : Stand p l e R s m args below meth c T locs cells slots) (hexec : p.tables.exec = Jvm.exec) {own C owner : String} {index : Nat} {x y : MethodName} {bytes : ByteArray} {maxL : Nat} {ret : Option FieldType}
    (hown : s.vm.findClass own = some m.cls) (hlink : (Cond.methodLink own index x).before args s = true) (hsame : (Cond.sameMethod x.cls owner x.name x.desc).before args s = true)
    (hd0 : va_Decl s ⟨owner, x.name, x.desc⟩) (howner : owner ≠ "java/lang/invoke/MethodHandle" ∧ owner ≠ "java/lang/invoke/VarHandle")
    (hsel : (Cond.selects C x y).before args s = true) (hinst : (Cond.instanceMethod y).before args s = true) (hcode : (Cond.code y bytes maxL ret).before args s = true)
    {W : Nat} {Pre : Pt → Array Value → Prop} {Post : Pt → Array Value → Option Value → Pt → Prop} {PostX : Pt → Array Value → Addr → Pt → Prop} (hK : vx_Back l R p e below s args y 3 W Pre Post PostX)
    {b : Addr} {cellB : Cell} (hcell : T.heap[b]? = some cellB) (hobj : cellB.vm.isStatics = false) (hcls : s.vm.findClass C = some cellB.cls)
    {g : JFrame} (hg : g.method = m) (hsize : g.locals.size = c.maxLocals) {argsL rest : List Value} (hlen : ∀ sig, parseMethodDescriptor x.desc = some sig → argsL.length = sig.parameters.length)
    (hstack : g.stack = argsL.reverse ++ .ref b :: rest) (hW : 2 * g.monitorRoom + (rest.map fun v => v.category).sum ≤ W) (hdg : decode c.code g.pc = .ok (.invokevirtual index, 3))
    (hpre : ∀ vm₁, s.WarmedH vm₁ → Pre ⟨T.setVm vm₁, locs, cells, slots⟩ (Value.ref b :: argsL).toArray) :
    (∃ (v : Option Value) (vm₁ : Vm) (B : Pt), s.WarmedH vm₁ ∧ Stand p l e R s m args below meth c B.U B.locs B.cells B.slots ∧ Post ⟨T.setVm vm₁, locs, cells, slots⟩ (Value.ref b :: argsL).toArray v B ∧
      ∀ target, Steps p.tables e below (B.U.setTop { g with pc := g.pc + 3, stack := v.toList ++ rest }) target → Steps p.tables e below (T.setTop g) target) ∨
    (∃ (q : Addr) (vm₁ : Vm) (B : Pt), s.WarmedH vm₁ ∧ Stand p l e R s m args below meth c B.U B.locs B.cells B.slots ∧ PostX ⟨T.setVm vm₁, locs, cells, slots⟩ (Value.ref b :: argsL).toArray q B ∧
      Steps p.tables e below (T.setTop g) ((B.U.setTop { g with stack := rest }).pushFrame (.throwing q))) := by
  obtain ⟨r0, r, hn, hrm, hstR, hsigR⟩ := hd0
  obtain ⟨cn, ck, r1, hcn, hck, hni, hf, hn1⟩ := Cond.sameMethod_found hsame
  cases hn.symm.trans hn1
  obtain ⟨mk, methM, hnamed, hmethM, -, habM⟩ := Cond.instanceMethod_spec hinst
  obtain ⟨c2, r2, m2, q1, q2, q3, q4, kP, hkP, hkPi⟩ := Cond.selects_spec hsel
  cases hcls.symm.trans q1
  cases hf.symm.trans q2
  cases hnamed.symm.trans q3
  have hselP : selectMethod e.platform s.vm cellB.cls r0 = .method mk := by rw [Launch.admits_selectMethod X.admits]; exact q4
  obtain ⟨vm₁, X₁, hstep₁⟩ := X.invokevirtualUp hexec hown hlink hsame howner hn hrm hstR (a := b) (cell := cellB) hcell
    (fun z h => by rw [h] at hobj; cases hobj) hselP hmethM habM hkP hkPi (g := g) hg (argsL := argsL) (rest := rest) (hlen _ hsigR) hstack hdg
  rcases hK m meth c ⟨T.setVm vm₁, locs, cells, slots⟩ { g with stack := rest } (.invokevirtual index) mk (Value.ref b :: argsL).toArray X₁ hg hsize hdg hW (X₁.named hnamed) (hpre vm₁ X₁.warmed) with ⟨v, B, X', hpost, hsteps⟩ | ⟨q, B, X', hpost, hsteps⟩
  · exact Or.inl ⟨v, vm₁, B, X₁.warmed, X', hpost, fun target h => hstep₁ _ fun acts => by rw [doInvoke_state]; exact hsteps.trans h⟩
  · exact Or.inr ⟨q, vm₁, B, X₁.warmed, X', hpost, hstep₁ _ fun acts => by rw [doInvoke_state]; exact hsteps⟩
theorem vx_runU {x y : MethodName} {bytes cc : ByteArray} {maxL nL mc ms n index : Nat} {ret : Option FieldType} {ws : List Cond} {rm : Room} {Pc : Array Value → State → Prop} {Qc : Array Value → State → Outcome → State → Prop} {XC : String → State → State → Prop} {free : Addr → Prop} {Ts : List Cond} {own C owner : String} {b : Addr} {As rest : List Value} {g : JFrame}
    (S : CallFix p m c cc nL s args Ts own) (hM : vx_Met l y ws rm Pc Qc XC mc ms free) (cw : va_CU R s args own C owner index x y bytes maxL ret ws rm mc ms n) (hp : PreV s H C b Pc As)
    (hg : g.method = m) (hn : As.length = n) (hsize : g.locals.size = nL) (hstack : g.stack = As.reverse ++ .ref b :: rest) (hW : 2 * g.monitorRoom + (rest.map fun v => v.category).sum ≤ 8) (hdg : decode cc g.pc = .ok (.invokevirtual index, 3)) (hf : cells + mc ≤ R.cells ∧ slots + ms ≤ R.slots) :
    vx_Run p l e R s m args below meth c H locs cells slots mc ms g rest (Qc (Value.ref b :: As).toArray) XC free := by
  obtain ⟨hrc, hrs, hfr, hlo, hws, hcw⟩ := cw.back
  have hini := cw.init
  have hK : vx_Back l R p e below s args y 3 8 (PreOf R mc ms Pc) (PostOf Qc mc ms free) (vx_Post XC mc ms free) := vx_back (bytes := bytes) (maxL := maxL) (ret := ret) hM hp.1 hrc hrs hfr hlo hws hcw (fun a' U hW => word_at hW (Or.inl (by first | rfl | simp [Cond.onTables, Cond.keeps, Cond.steady])) hini)
  obtain ⟨hx, hb, hml, ho, -⟩ := S
  obtain ⟨-, ⟨cellB, hcB, hoB, hclB⟩, hPc⟩ := hp
  intro T hT X
  rcases vx_callVU X hx (C := C) (owner := owner) (bytes := bytes) (maxL := maxL) (ret := ret) ho cw.link cw.same cw.decl cw.notMH cw.sel cw.inst cw.code hK (by rw [hT]; exact hcB) hoB hclB hg (hsize.trans hml.symm) (argsL := As) (rest := rest) (fun sig h => hn.trans (cw.len sig h)) hstack hW (by rw [hb]; exact hdg)
    (fun vm₁ hW₁ => ⟨hf.1, hf.2, hPc (T.setVm vm₁) hT hW₁⟩) with ⟨v, vm₁, ⟨U', l2, c2, s2⟩, hW₁, X', ⟨g', mk, t, L, e1, e2, hq, h1, hL, h2, h3⟩, st⟩ | ⟨q, vm₁, ⟨U', l2, c2, s2⟩, hW₁, X', ⟨g', mk, t, L, E, ce, e1, e2, hq, hce, hcv, hcl, h1, hL, h2, h3⟩, st⟩
  · dsimp only [Pt.U, Pt.locs, Pt.cells, Pt.slots] at X' e1 e2 h1 h2 h3 st
    subst h1; subst h2; subst h3
    exact Or.inl ⟨v, (T.setVm vm₁).calling g' mk (Value.ref b :: As).toArray, t, U', L, hT, X', hL, e1, e2, hq, st⟩
  · dsimp only [Pt.U, Pt.locs, Pt.cells, Pt.slots] at X' e1 e2 h1 h2 h3 st hcl
    subst h1; subst h2; subst h3
    exact Or.inr ⟨q, (T.setVm vm₁).calling g' mk (Value.ref b :: As).toArray, t, U', L, E, ce, hT, X', hL, e1, e2, hq, hce, hcv, vx_cls hW₁ hcl, st⟩
end
/-! ===== END ===== -/
/-! ===== BEGIN super.m(..) that may throw (follows va_callSU, va_runSU) ===== -/
section
variable {p : Program} {l : Launch} {e : Env} {R : Room} {s : State} {m : MethodId} {args : Array Value} {below : List Frame} {meth : Method} {c : Code} {H : Heap} {locs : List Loc} {cells slots : Nat}
theorem vx_callSU {T : State} {locs : List Loc} {cells slots : Nat} (X : Stand p l e R s m args below meth c T locs cells slots) (hexec : p.tables.exec = Jvm.exec) {own : String} {index : Nat} {y : MethodName} {bytes : ByteArray} {maxL : Nat} {ret : Option FieldType}
    (hown : s.vm.findClass own = some m.cls) (hlink : (Cond.methodLink own index y).before args s = true) (hsame : (Cond.sameMethod y.cls y.cls y.name y.desc).before args s = true) (hsup : (Cond.superclass own y.cls).before args s = true)
    (hinst : (Cond.instanceMethod y).before args s = true) (hcode : (Cond.code y bytes maxL ret).before args s = true) (hno : y.name ≠ "<init>")
    {W : Nat} {Pre : Pt → Array Value → Prop} {Post : Pt → Array Value → Option Value → Pt → Prop} {PostX : Pt → Array Value → Addr → Pt → Prop} (hK : vx_Back l R p e below s args y 3 W Pre Post PostX)
    {b : Addr} {cellB : Cell} {kB : Class} (hcell : T.heap[b]? = some cellB) (hobj : cellB.vm.isStatics = false) (hkB : s.vm.classes[cellB.cls]? = some kB)
    {g : JFrame} (hg : g.method = m) (hsize : g.locals.size = c.maxLocals) {argsL rest : List Value} (hlen : ∀ sig, parseMethodDescriptor y.desc = some sig → argsL.length = sig.parameters.length)
    (hstack : g.stack = argsL.reverse ++ .ref b :: rest) (hW : 2 * g.monitorRoom + (rest.map fun v => v.category).sum ≤ W) (hdg : decode c.code g.pc = .ok (.invokespecial index, 3))
    (hpre : ∀ vm₁, s.WarmedH vm₁ → Pre ⟨T.setVm vm₁, locs, cells, slots⟩ (Value.ref b :: argsL).toArray) :
    (∃ (v : Option Value) (vm₁ : Vm) (B : Pt), s.WarmedH vm₁ ∧ Stand p l e R s m args below meth c B.U B.locs B.cells B.slots ∧ Post ⟨T.setVm vm₁, locs, cells, slots⟩ (Value.ref b :: argsL).toArray v B ∧
      ∀ target, Steps p.tables e below (B.U.setTop { g with pc := g.pc + 3, stack := v.toList ++ rest }) target → Steps p.tables e below (T.setTop g) target) ∨
    (∃ (q : Addr) (vm₁ : Vm) (B : Pt), s.WarmedH vm₁ ∧ Stand p l e R s m args below meth c B.U B.locs B.cells B.slots ∧ PostX ⟨T.setVm vm₁, locs, cells, slots⟩ (Value.ref b :: argsL).toArray q B ∧
      Steps p.tables e below (T.setTop g) ((B.U.setTop { g with stack := rest }).pushFrame (.throwing q))) := by
  obtain ⟨mk, methM, hnamed, hmethM, hstM, habM⟩ := Cond.instanceMethod_spec hinst
  obtain ⟨methM', cM, hmethM', -, -, -, -, -, -, hsigM⟩ := Cond.code_spec hnamed hcode
  cases hmethM.symm.trans hmethM'
  obtain ⟨ps, dk, kp, hps, hdk, hkp, hsuper, -, -, hnid⟩ := Cond.superclass_spec hown hsup
  have hn : s.methodNamed? ⟨y.cls, y.name, y.desc⟩ = some mk := hnamed
  have hpm : ps = mk.cls := Option.some.inj (hps.symm.trans (findClass_of_methodNamed hnamed))
  have hsub : s.vm.isSubclass ps mk.cls = true := by rw [hpm]; simp [Vm.isSubclass, Vm.isSubclassAux]
  obtain ⟨vm₁, X₁, hstep₁⟩ := X.invokespecialUp hexec hown hlink hsame hn hmethM hstM habM hno hdk hnid hps hsuper hsub (a := b) (cell := cellB) hcell
    (fun z h => by rw [h] at hobj; cases hobj) hkB (g := g) hg (argsL := argsL) (rest := rest) (hlen _ hsigM) hstack hdg
  rcases hK m meth c ⟨T.setVm vm₁, locs, cells, slots⟩ { g with stack := rest } (.invokespecial index) mk (Value.ref b :: argsL).toArray X₁ hg hsize hdg hW (X₁.named hnamed) (hpre vm₁ X₁.warmed) with ⟨v, B, X', hpost, hsteps⟩ | ⟨q, B, X', hpost, hsteps⟩
  · exact Or.inl ⟨v, vm₁, B, X₁.warmed, X', hpost, fun target h => hstep₁ _ (by rw [doInvoke_state]; exact hsteps.trans h)⟩
  · exact Or.inr ⟨q, vm₁, B, X₁.warmed, X', hpost, hstep₁ _ (by rw [doInvoke_state]; exact hsteps)⟩
theorem vx_runSU {y : MethodName} {bytes cc : ByteArray} {maxL nL mc ms n index : Nat} {ret : Option FieldType} {ws : List Cond} {rm : Room} {Pc : Array Value → State → Prop} {Qc : Array Value → State → Outcome → State → Prop} {XC : String → State → State → Prop} {free : Addr → Prop} {Ts : List Cond} {own C : String} {cC : ClassId} {b : Addr} {As rest : List Value} {g : JFrame}
    (hat : ClassAt s C cC) (S : CallFix p m c cc nL s args Ts own) (hM : vx_Met l y ws rm Pc Qc XC mc ms free) (cw : va_CS R s args own index y bytes maxL ret ws rm mc ms n) (hp : PreV s H C b Pc As)
    (hg : g.method = m) (hn : As.length = n) (hsize : g.locals.size = nL) (hstack : g.stack = As.reverse ++ .ref b :: rest) (hW : 2 * g.monitorRoom + (rest.map fun v => v.category).sum ≤ 8) (hdg : decode cc g.pc = .ok (.invokespecial index, 3)) (hf : cells + mc ≤ R.cells ∧ slots + ms ≤ R.slots) :
    vx_Run p l e R s m args below meth c H locs cells slots mc ms g rest (Qc (Value.ref b :: As).toArray) XC free := by
  obtain ⟨⟨hrc, hrs, hfr, hlo, hws, hcw⟩, hl1, hl2, hl3, hl4, hini, hcode, hno, hlen⟩ := cw
  have hK : vx_Back l R p e below s args y 3 8 (PreOf R mc ms Pc) (PostOf Qc mc ms free) (vx_Post XC mc ms free) := vx_back (bytes := bytes) (maxL := maxL) (ret := ret) hM hp.1 hrc hrs hfr hlo hws hcw (fun a' U hW => word_at hW (Or.inl (by first | rfl | simp [Cond.onTables, Cond.keeps, Cond.steady])) hini)
  obtain ⟨hx, hb, hml, ho, -⟩ := S
  obtain ⟨-, ⟨cellB, hcB, hoB, hclB⟩, hPc⟩ := hp
  obtain ⟨hfc, kB, hkB, -⟩ := hat
  cases hfc.symm.trans hclB
  intro T hT X
  rcases vx_callSU X hx (bytes := bytes) (maxL := maxL) (ret := ret) ho hl1 hl2 hl3 hl4 hcode hno hK (by rw [hT]; exact hcB) hoB hkB hg (hsize.trans hml.symm) (argsL := As) (rest := rest) (fun sig h => hn.trans (hlen sig h)) hstack hW (by rw [hb]; exact hdg)
    (fun vm₁ hW₁ => ⟨hf.1, hf.2, hPc (T.setVm vm₁) hT hW₁⟩) with ⟨v, vm₁, ⟨U', l2, c2, s2⟩, hW₁, X', ⟨g', mk, t, L, e1, e2, hq, h1, hL, h2, h3⟩, st⟩ | ⟨q, vm₁, ⟨U', l2, c2, s2⟩, hW₁, X', ⟨g', mk, t, L, E, ce, e1, e2, hq, hce, hcv, hcl, h1, hL, h2, h3⟩, st⟩
  · dsimp only [Pt.U, Pt.locs, Pt.cells, Pt.slots] at X' e1 e2 h1 h2 h3 st
    subst h1; subst h2; subst h3
    exact Or.inl ⟨v, (T.setVm vm₁).calling g' mk (Value.ref b :: As).toArray, t, U', L, hT, X', hL, e1, e2, hq, st⟩
  · dsimp only [Pt.U, Pt.locs, Pt.cells, Pt.slots] at X' e1 e2 h1 h2 h3 st hcl
    subst h1; subst h2; subst h3
    exact Or.inr ⟨q, (T.setVm vm₁).calling g' mk (Value.ref b :: As).toArray, t, U', L, E, ce, hT, X', hL, e1, e2, hq, hce, hcv, vx_cls hW₁ hcl, st⟩
end
/-! ===== END ===== -/
/-! ===== BEGIN a private method of a nest mate that may throw (follows va_callVN, va_callSN, va_runVN, va_runSN) ===== -/
section
variable {p : Program} {l : Launch} {e : Env} {R : Room} {s : State} {m : MethodId} {args : Array Value} {below : List Frame} {meth : Method} {c : Code} {H : Heap} {locs : List Loc} {cells slots : Nat}
variable {T : State}
theorem vx_callVN (X : Stand p l e R s m args below meth c T locs cells slots) (hexec : p.tables.exec = Jvm.exec) {own C : String} {index : Nat} {host : String} {y : MethodName} {bytes : ByteArray} {maxL : Nat} {ret : Option FieldType}
    (hown : s.vm.findClass own = some m.cls) (hlink : (Cond.methodLinkNest own index y host).before args s = true) (hinst : (Cond.instanceMethod y).before args s = true) (hsel : (Cond.selects C y y).before args s = true)
    (hcode : (Cond.code y bytes maxL ret).before args s = true) (hy : y.cls ≠ "java/lang/invoke/MethodHandle" ∧ y.cls ≠ "java/lang/invoke/VarHandle")
    {W : Nat} {Pre : Pt → Array Value → Prop} {Post : Pt → Array Value → Option Value → Pt → Prop} {PostX : Pt → Array Value → Addr → Pt → Prop} (hK : vx_Back l R p e below s args y 3 W Pre Post PostX)
    {b : Addr} {cellB : Cell} (hcell : T.heap[b]? = some cellB) (hobj : cellB.vm.isStatics = false) (hcls : s.vm.findClass C = some cellB.cls)
    {g : JFrame} (hg : g.method = m) (hsize : g.locals.size = c.maxLocals) {argsL rest : List Value} (hlen : ∀ sig, parseMethodDescriptor y.desc = some sig → argsL.length = sig.parameters.length)
    (hstack : g.stack = argsL.reverse ++ .ref b :: rest) (hW : 2 * g.monitorRoom + (rest.map fun v => v.category).sum ≤ W) (hdg : decode c.code g.pc = .ok (.invokevirtual index, 3))
    (hpre : ∀ vm₁, s.WarmedH vm₁ → Pre ⟨T.setVm vm₁, locs, cells, slots⟩ (Value.ref b :: argsL).toArray) :
    (∃ (v : Option Value) (vm₁ : Vm) (B : Pt), s.WarmedH vm₁ ∧ Stand p l e R s m args below meth c B.U B.locs B.cells B.slots ∧ Post ⟨T.setVm vm₁, locs, cells, slots⟩ (Value.ref b :: argsL).toArray v B ∧
      ∀ target, Steps p.tables e below (B.U.setTop { g with pc := g.pc + 3, stack := v.toList ++ rest }) target → Steps p.tables e below (T.setTop g) target) ∨
    (∃ (q : Addr) (vm₁ : Vm) (B : Pt), s.WarmedH vm₁ ∧ Stand p l e R s m args below meth c B.U B.locs B.cells B.slots ∧ PostX ⟨T.setVm vm₁, locs, cells, slots⟩ (Value.ref b :: argsL).toArray q B ∧
      Steps p.tables e below (T.setTop g) ((B.U.setTop { g with stack := rest }).pushFrame (.throwing q))) := by
  obtain ⟨mk, methM, hnamed, hmethM, hstM, habM⟩ := Cond.instanceMethod_spec hinst
  obtain ⟨methM', cM, hmethM', -, -, -, -, -, -, hsigM⟩ := Cond.code_spec hnamed hcode
  cases hmethM.symm.trans hmethM'
  obtain ⟨c2, r2, m2, q1, q2, q3, q4, kP, hkP, hkPi⟩ := Cond.selects_spec hsel
  cases hcls.symm.trans q1
  cases (State.methodFound?_of_named hnamed hy).symm.trans q2
  cases hnamed.symm.trans q3
  have hselP : selectMethod e.platform s.vm cellB.cls mk = .method mk := by rw [Launch.admits_selectMethod X.admits]; exact q4
  obtain ⟨vm₁, X₁, hstep₁⟩ := X.invokevirtualNest hexec hown hlink hnamed hmethM hstM hkP hkPi hy (a := b) (cell := cellB) hcell
    (fun z h => by rw [h] at hobj; cases hobj) hselP hmethM habM hkP hkPi (g := g) hg (argsL := argsL) (rest := rest) (hlen _ hsigM) hstack hdg
  rcases hK m meth c ⟨T.setVm vm₁, locs, cells, slots⟩ { g with stack := rest } (.invokevirtual index) mk (Value.ref b :: argsL).toArray X₁ hg hsize hdg hW (X₁.named hnamed) (hpre vm₁ X₁.warmed) with ⟨v, B, X', hpost, hsteps⟩ | ⟨q, B, X', hpost, hsteps⟩
  · exact Or.inl ⟨v, vm₁, B, X₁.warmed, X', hpost, fun target h => hstep₁ _ fun acts => by rw [doInvoke_state]; exact hsteps.trans h⟩
  · exact Or.inr ⟨q, vm₁, B, X₁.warmed, X', hpost, hstep₁ _ fun acts => by rw [doInvoke_state]; exact hsteps⟩
theorem vx_callSN (X : Stand p l e R s m args below meth c T locs cells slots) (hexec : p.tables.exec = Jvm.exec) {own : String} {index : Nat} {host : String} {y : MethodName} {bytes : ByteArray} {maxL : Nat} {ret : Option FieldType}
    (hown : s.vm.findClass own = some m.cls) (hlink : (Cond.methodLinkNest own index y host).before args s = true) (hstat : (Cond.static y).before args s = true) (hinit : (Cond.initialized y.cls).before args s = true)
    (hcode : (Cond.code y bytes maxL ret).before args s = true) (hy : y.cls ≠ "java/lang/invoke/MethodHandle" ∧ y.cls ≠ "java/lang/invoke/VarHandle")
    {W : Nat} {Pre : Pt → Array Value → Prop} {Post : Pt → Array Value → Option Value → Pt → Prop} {PostX : Pt → Array Value → Addr → Pt → Prop} (hK : vx_Back l R p e below s args y 3 W Pre Post PostX)
    {g : JFrame} (hg : g.method = m) (hsize : g.locals.size = c.maxLocals) {argsL rest : List Value} (hlen : ∀ sig, parseMethodDescriptor y.desc = some sig → argsL.length = sig.parameters.length)
    (hstack : g.stack = argsL.reverse ++ rest) (hW : 2 * g.monitorRoom + (rest.map fun v => v.category).sum ≤ W) (hdg : decode c.code g.pc = .ok (.invokestatic index, 3))
    (hpre : ∀ vm₁, s.WarmedH vm₁ → Pre ⟨T.setVm vm₁, locs, cells, slots⟩ argsL.toArray) :
    (∃ (v : Option Value) (vm₁ : Vm) (B : Pt), s.WarmedH vm₁ ∧ Stand p l e R s m args below meth c B.U B.locs B.cells B.slots ∧ Post ⟨T.setVm vm₁, locs, cells, slots⟩ argsL.toArray v B ∧
      ∀ target, Steps p.tables e below (B.U.setTop { g with pc := g.pc + 3, stack := v.toList ++ rest }) target → Steps p.tables e below (T.setTop g) target) ∨
    (∃ (q : Addr) (vm₁ : Vm) (B : Pt), s.WarmedH vm₁ ∧ Stand p l e R s m args below meth c B.U B.locs B.cells B.slots ∧ PostX ⟨T.setVm vm₁, locs, cells, slots⟩ argsL.toArray q B ∧
      Steps p.tables e below (T.setTop g) ((B.U.setTop { g with stack := rest }).pushFrame (.throwing q))) := by
  obtain ⟨mk, hnamed⟩ := Cond.code_named hcode
  obtain ⟨methM, cM, hmethM, -, -, -, -, -, -, hsigM⟩ := Cond.code_spec hnamed hcode
  have hstatic : methM.isStatic = true := Cond.static_spec hnamed hmethM hstat
  obtain ⟨kP, hkP, -⟩ := className_of_methodNamed hnamed
  have hinitP : kP.init = .initialized := Cond.initialized_spec (findClass_of_methodNamed hnamed) hkP hinit
  obtain ⟨vm₁, X₁, hstep₁⟩ := X.invokestaticNest hexec hown hlink hnamed hmethM hstatic hkP hinitP hy (g := g) hg (argsL := argsL) (rest := rest) (hlen _ hsigM) hstack hdg
  rcases hK m meth c ⟨T.setVm vm₁, locs, cells, slots⟩ { g with stack := rest } (.invokestatic index) mk argsL.toArray X₁ hg hsize hdg hW (X₁.named hnamed) (hpre vm₁ X₁.warmed) with ⟨v, B, X', hpost, hsteps⟩ | ⟨q, B, X', hpost, hsteps⟩
  · exact Or.inl ⟨v, vm₁, B, X₁.warmed, X', hpost, fun target h => hstep₁ _ fun acts => by rw [doInvoke_state]; exact hsteps.trans h⟩
  · exact Or.inr ⟨q, vm₁, B, X₁.warmed, X', hpost, hstep₁ _ fun acts => by rw [doInvoke_state]; exact hsteps⟩
theorem vx_runVN {y : MethodName} {bytes cc : ByteArray} {maxL nL mc ms n index : Nat} {ret : Option FieldType} {ws : List Cond} {rm : Room} {Pc : Array Value → State → Prop} {Qc : Array Value → State → Outcome → State → Prop} {XC : String → State → State → Prop} {free : Addr → Prop} {Ts : List Cond} {own C host : String} {b : Addr} {As rest : List Value} {g : JFrame}
    (S : CallFix p m c cc nL s args Ts own) (hM : vx_Met l y ws rm Pc Qc XC mc ms free) (cw : va_CN R s args own index y host bytes maxL ret ws rm mc ms n ∧ (Cond.instanceMethod y).before args s = true ∧ (Cond.selects C y y).before args s = true) (hp : PreV s H C b Pc As)
    (hg : g.method = m) (hn : As.length = n) (hsize : g.locals.size = nL) (hstack : g.stack = As.reverse ++ .ref b :: rest) (hW : 2 * g.monitorRoom + (rest.map fun v => v.category).sum ≤ 8) (hdg : decode cc g.pc = .ok (.invokevirtual index, 3)) (hf : cells + mc ≤ R.cells ∧ slots + ms ≤ R.slots) :
    vx_Run p l e R s m args below meth c H locs cells slots mc ms g rest (Qc (Value.ref b :: As).toArray) XC free := by
  obtain ⟨⟨⟨hrc, hrs, hfr, hlo, hws, hcw⟩, hcode, hini, hy, hlen, hl⟩, hx1, hx2⟩ := cw
  have hK : vx_Back l R p e below s args y 3 8 (PreOf R mc ms Pc) (PostOf Qc mc ms free) (vx_Post XC mc ms free) := vx_back (bytes := bytes) (maxL := maxL) (ret := ret) hM hp.1 hrc hrs hfr hlo hws hcw (fun a' U hW => word_at hW (Or.inl (by first | rfl | simp [Cond.onTables, Cond.keeps, Cond.steady])) hini)
  obtain ⟨hx, hb, hml, ho, -⟩ := S
  obtain ⟨-, ⟨cellB, hcB, hoB, hclB⟩, hPc⟩ := hp
  intro T hT X
  rcases vx_callVN X hx (C := C) (bytes := bytes) (maxL := maxL) (ret := ret) ho hl hx1 hx2 hcode hy hK (by rw [hT]; exact hcB) hoB hclB hg (hsize.trans hml.symm) (argsL := As) (rest := rest) (fun sig h => hn.trans (hlen sig h)) hstack hW (by rw [hb]; exact hdg)
    (fun vm₁ hW₁ => ⟨hf.1, hf.2, hPc (T.setVm vm₁) hT hW₁⟩) with ⟨v, vm₁, ⟨U', l2, c2, s2⟩, hW₁, X', ⟨g', mk, t, L, e1, e2, hq, h1, hL, h2, h3⟩, st⟩ | ⟨q, vm₁, ⟨U', l2, c2, s2⟩, hW₁, X', ⟨g', mk, t, L, E, ce, e1, e2, hq, hce, hcv, hcl, h1, hL, h2, h3⟩, st⟩
  · dsimp only [Pt.U, Pt.locs, Pt.cells, Pt.slots] at X' e1 e2 h1 h2 h3 st
    subst h1; subst h2; subst h3
    exact Or.inl ⟨v, (T.setVm vm₁).calling g' mk (Value.ref b :: As).toArray, t, U', L, hT, X', hL, e1, e2, hq, st⟩
  · dsimp only [Pt.U, Pt.locs, Pt.cells, Pt.slots] at X' e1 e2 h1 h2 h3 st hcl
    subst h1; subst h2; subst h3
    exact Or.inr ⟨q, (T.setVm vm₁).calling g' mk (Value.ref b :: As).toArray, t, U', L, E, ce, hT, X', hL, e1, e2, hq, hce, hcv, vx_cls hW₁ hcl, st⟩
theorem vx_runSN {y : MethodName} {bytes cc : ByteArray} {maxL nL mc ms n index : Nat} {ret : Option FieldType} {ws : List Cond} {rm : Room} {Pc : Array Value → State → Prop} {Qc : Array Value → State → Outcome → State → Prop} {XC : String → State → State → Prop} {free : Addr → Prop} {Ts : List Cond} {own host : String} {As rest : List Value} {g : JFrame}
    (S : CallFix p m c cc nL s args Ts own) (hM : vx_Met l y ws rm Pc Qc XC mc ms free) (cw : va_CN R s args own index y host bytes maxL ret ws rm mc ms n ∧ (Cond.static y).before args s = true ∧ True) (hp : PreS s H Pc As)
    (hg : g.method = m) (hn : As.length = n) (hsize : g.locals.size = nL) (hstack : g.stack = As.reverse ++ rest) (hW : 2 * g.monitorRoom + (rest.map fun v => v.category).sum ≤ 8) (hdg : decode cc g.pc = .ok (.invokestatic index, 3)) (hf : cells + mc ≤ R.cells ∧ slots + ms ≤ R.slots) :
    vx_Run p l e R s m args below meth c H locs cells slots mc ms g rest (Qc As.toArray) XC free := by
  obtain ⟨⟨⟨hrc, hrs, hfr, hlo, hws, hcw⟩, hcode, hini, hy, hlen, hl⟩, hx1, hx2⟩ := cw
  have hK : vx_Back l R p e below s args y 3 8 (PreOf R mc ms Pc) (PostOf Qc mc ms free) (vx_Post XC mc ms free) := vx_back (bytes := bytes) (maxL := maxL) (ret := ret) hM hp.1 hrc hrs hfr hlo hws hcw (fun a' U hW => word_at hW (Or.inl (by first | rfl | simp [Cond.onTables, Cond.keeps, Cond.steady])) hini)
  obtain ⟨hx, hb, hml, ho, -⟩ := S
  have hPc := hp.2
  intro T hT X
  rcases vx_callSN X hx (bytes := bytes) (maxL := maxL) (ret := ret) ho hl hx1 hini hcode hy hK hg (hsize.trans hml.symm) (argsL := As) (rest := rest) (fun sig h => hn.trans (hlen sig h)) hstack hW (by rw [hb]; exact hdg)
    (fun vm₁ hW₁ => ⟨hf.1, hf.2, hPc (T.setVm vm₁) hT hW₁⟩) with ⟨v, vm₁, ⟨U', l2, c2, s2⟩, hW₁, X', ⟨g', mk, t, L, e1, e2, hq, h1, hL, h2, h3⟩, st⟩ | ⟨q, vm₁, ⟨U', l2, c2, s2⟩, hW₁, X', ⟨g', mk, t, L, E, ce, e1, e2, hq, hce, hcv, hcl, h1, hL, h2, h3⟩, st⟩
  · dsimp only [Pt.U, Pt.locs, Pt.cells, Pt.slots] at X' e1 e2 h1 h2 h3 st
    subst h1; subst h2; subst h3
    exact Or.inl ⟨v, (T.setVm vm₁).calling g' mk As.toArray, t, U', L, hT, X', hL, e1, e2, hq, st⟩
  · dsimp only [Pt.U, Pt.locs, Pt.cells, Pt.slots] at X' e1 e2 h1 h2 h3 st hcl
    subst h1; subst h2; subst h3
    exact Or.inr ⟨q, (T.setVm vm₁).calling g' mk As.toArray, t, U', L, E, ce, hT, X', hL, e1, e2, hq, hce, hcv, vx_cls hW₁ hcl, st⟩
end
/-! ===== END ===== -/
/-! ===== BEGIN calls by an interface of methods that may throw (vx_callIF, vx_runF follow va_callIF, va_runF of this kit) ===== -/
section
variable {p : Program} {l : Launch} {e : Env} {R : Room} {s : State} {m : MethodId} {args : Array Value} {below : List Frame} {meth : Method} {c : Code} {H : Heap} {locs : List Loc} {cells slots : Nat} {Q : State → Prop}
variable {mc ms : Nat} {free : Addr → Prop} {A0 A1 : Nat → Prop} {H0 : Heap} {a : Array Value} {pc : Nat} {ls : Array Slot} {st0 rest : List Value}
def vx_Run5 (p : Program) (l : Launch) (e : Env) (R : Room) (s : State) (m : MethodId) (args : Array Value) (below : List Frame) (meth : Method) (c : Code) (H : Heap) (locs : List Loc) (cells slots mc ms : Nat) (g : JFrame) (rest : List Value) (Qa : State → Outcome → State → Prop) (XC : String → State → State → Prop) (free : Addr → Prop) : Prop :=
  ∀ T : State, T.heap = H → Stand p l e R s m args below meth c T locs cells slots →
    (∃ (v : Option Value) (st₀ t T' : State) (L : List Loc), st₀.heap = H ∧ Stand p l e R s m args below meth c T' (locs ++ L) (cells + mc) (slots + ms) ∧ (∀ q ∈ L, free q.base) ∧ T'.heap = t.heap ∧ T'.vm = t.vm ∧ Qa st₀ (.returned v) t ∧
      Goes p e below T g T' { g with pc := g.pc + 5, stack := v.toList ++ rest }) ∨
    (∃ (q : Addr) (st₀ t T' : State) (L : List Loc) (E : String) (ce : Cell), st₀.heap = H ∧ Stand p l e R s m args below meth c T' (locs ++ L) (cells + mc) (slots + ms) ∧ (∀ z ∈ L, free z.base) ∧ T'.heap = t.heap ∧ T'.vm = t.vm ∧ XC E st₀ t ∧ t.heap[q]? = some ce ∧ ce.vm = .none ∧ s.vm.findClass E = some ce.cls ∧
      Steps p.tables e below (T.setTop g) ((T'.setTop { g with stack := rest }).pushFrame (.throwing q)))
theorem vx_callIF {T : State} (X : Stand p l e R s m args below meth c T locs cells slots) (hexec : p.tables.exec = Jvm.exec) {own C : String} {index count : Nat} {x y : MethodName} {bytes : ByteArray} {maxL : Nat} {ret : Option FieldType}
    (hown : s.vm.findClass own = some m.cls) (hlink : (Cond.methodLink own index x).before args s = true) (hdecl : (Cond.declares x).before args s = true) (hface : (Cond.interfaceMethod x.cls x.cls x.name x.desc).before args s = true)
    (hsel : (Cond.selects C x y).before args s = true) (hinst : (Cond.instanceMethod y).before args s = true) (hpub : (Cond.publicMethod y).before args s = true) (hunh : (Cond.unhidden C x.name x.desc).before args s = true)
    (hcast : (Cond.castable C x.cls).before args s = true) (hcode : (Cond.code y bytes maxL ret).before args s = true) (hx : x.cls ≠ "java/lang/invoke/MethodHandle" ∧ x.cls ≠ "java/lang/invoke/VarHandle")
    {W9 : Nat} {Pre : Pt → Array Value → Prop} {Post : Pt → Array Value → Option Value → Pt → Prop} {PostX : Pt → Array Value → Addr → Pt → Prop} (hK : vx_Back l R p e below s args y 5 W9 Pre Post PostX)
    {b : Addr} {cellB : Cell} {kB : Class} (hcell : T.heap[b]? = some cellB) (hobj : cellB.vm.isStatics = false) (hcls : s.vm.findClass C = some cellB.cls) (hkB : s.vm.classes[cellB.cls]? = some kB)
    {g : JFrame} (hg : g.method = m) (hsize : g.locals.size = c.maxLocals) {argsL rest : List Value} (hlen : ∀ sig, parseMethodDescriptor x.desc = some sig → argsL.length = sig.parameters.length)
    (hstack : g.stack = argsL.reverse ++ .ref b :: rest) (hW : 2 * g.monitorRoom + (rest.map fun v => v.category).sum ≤ W9) (hdg : decode c.code g.pc = .ok (.invokeinterface index count, 5))
    (hpre : ∀ vm₁, s.WarmedH vm₁ → Pre ⟨T.setVm vm₁, locs, cells, slots⟩ (Value.ref b :: argsL).toArray) :
    (∃ (v : Option Value) (vm₁ : Vm) (B : Pt), s.WarmedH vm₁ ∧ Stand p l e R s m args below meth c B.U B.locs B.cells B.slots ∧ Post ⟨T.setVm vm₁, locs, cells, slots⟩ (Value.ref b :: argsL).toArray v B ∧
      ∀ target, Steps p.tables e below (B.U.setTop { g with pc := g.pc + 5, stack := v.toList ++ rest }) target → Steps p.tables e below (T.setTop g) target) ∨
    (∃ (q : Addr) (vm₁ : Vm) (B : Pt), s.WarmedH vm₁ ∧ Stand p l e R s m args below meth c B.U B.locs B.cells B.slots ∧ PostX ⟨T.setVm vm₁, locs, cells, slots⟩ (Value.ref b :: argsL).toArray q B ∧
      Steps p.tables e below (T.setTop g) ((B.U.setTop { g with stack := rest }).pushFrame (.throwing q))) := by
  obtain ⟨r0, r, hn, hrm, hstR, hsigR⟩ := Cond.declares_spec hdecl
  obtain ⟨cL, kL, r1, hcL, hkL, hiL, hfoundL, hn1⟩ := Cond.interfaceMethod_spec hface
  cases hn.symm.trans hn1
  have hr0cls : r0.cls = cL := Option.some.inj ((findClass_of_methodNamed hn).symm.trans hcL)
  obtain ⟨hnameR, hdescR⟩ := name_of_methodNamed hn hrm
  obtain ⟨mk, methM, hnamed, hmethM, -, habM⟩ := Cond.instanceMethod_spec hinst
  obtain ⟨c2, r2, m2, q1, q2, q3, q4, -⟩ := Cond.selects_spec hsel
  cases hcls.symm.trans q1
  cases hfoundL.symm.trans q2
  cases hnamed.symm.trans q3
  have hselP : selectMethod e.platform s.vm cellB.cls r0 = .method mk := by rw [Launch.admits_selectMethod X.admits]; exact q4
  have hpubM : hasFlag methM.accessFlags Acc.public_ = true := Cond.publicMethod_spec hnamed hmethM hpub
  have hway : ((cellB.cls :: s.vm.superclasses cellB.cls).any fun k => (declaredIn s.vm r.name r.desc k).any fun (_, z) => z.isPrivate || z.isStatic) = false := by
    rw [hnameR, hdescR]; exact Cond.unhidden_spec hcls hunh
  obtain ⟨c3, t3, w1, w2, w3⟩ := Cond.castable_spec hcast
  cases hcls.symm.trans w1
  cases hcL.symm.trans w2
  obtain ⟨vm₁, X₁, hstep₁⟩ := X.invokeinterface hexec hown hlink hn hrm hstR (by rw [hr0cls]; exact hkL) hiL hx (a := b) (cell := cellB) (kcell := kB) hcell
    (fun z h => by rw [h] at hobj; cases hobj) hkB (by rw [hr0cls]; exact w3) hselP hmethM hway hpubM habM (g := g) hg (argsL := argsL) (rest := rest) (hlen _ hsigR) hstack hdg
  rcases hK m meth c ⟨T.setVm vm₁, locs, cells, slots⟩ { g with stack := rest } (.invokeinterface index count) mk (Value.ref b :: argsL).toArray X₁ hg hsize hdg hW (X₁.named hnamed) (hpre vm₁ X₁.warmed) with ⟨v, B, X', hpost, hsteps⟩ | ⟨q, B, X', hpost, hsteps⟩
  · exact Or.inl ⟨v, vm₁, B, X₁.warmed, X', hpost, fun target h => hstep₁ _ fun acts => by rw [doInvoke_state]; exact hsteps.trans h⟩
  · exact Or.inr ⟨q, vm₁, B, X₁.warmed, X', hpost, hstep₁ _ fun acts => by rw [doInvoke_state]; exact hsteps⟩
theorem vx_runF {x y : MethodName} {bytes cc : ByteArray} {maxL nL mc ms n index count : Nat} {ret : Option FieldType} {ws : List Cond} {rm : Room} {Pc : Array Value → State → Prop} {Qc : Array Value → State → Outcome → State → Prop} {XC : String → State → State → Prop} {free : Addr → Prop} {Ts : List Cond} {own C : String} {cC : ClassId} {b : Addr} {As rest : List Value} {g : JFrame}
    (hat : ClassAt s C cC) (S : CallFix p m c cc nL s args Ts own) (hM : vx_Met l y ws rm Pc Qc XC mc ms free) (cw : va_CI R s args own C index x y bytes maxL ret ws rm mc ms n) (hp : PreV s H C b Pc As)
    (hg : g.method = m) (hn : As.length = n) (hsize : g.locals.size = nL) (hstack : g.stack = As.reverse ++ .ref b :: rest) (hW : 2 * g.monitorRoom + (rest.map fun v => v.category).sum ≤ 8) (hdg : decode cc g.pc = .ok (.invokeinterface index count, 5)) (hf : cells + mc ≤ R.cells ∧ slots + ms ≤ R.slots) :
    vx_Run5 p l e R s m args below meth c H locs cells slots mc ms g rest (Qc (Value.ref b :: As).toArray) XC free := by
  obtain ⟨hrc, hrs, hfr, hlo, hws, hcw⟩ := cw.back
  have hini := cw.init
  have hK : vx_Back l R p e below s args y 5 8 (PreOf R mc ms Pc) (PostOf Qc mc ms free) (vx_Post XC mc ms free) := vx_back (bytes := bytes) (maxL := maxL) (ret := ret) hM hp.1 hrc hrs hfr hlo hws hcw (fun a' U hW => word_at hW (Or.inl (by first | rfl | simp [Cond.onTables, Cond.keeps, Cond.steady])) hini)
  obtain ⟨hx, hb, hml, ho, -⟩ := S
  obtain ⟨-, ⟨cellB, hcB, hoB, hclB⟩, hPc⟩ := hp
  obtain ⟨hfc, kB, hkB, -⟩ := hat
  cases hfc.symm.trans hclB
  intro T hT X
  rcases vx_callIF X hx (C := C) (bytes := bytes) (maxL := maxL) (ret := ret) ho cw.link cw.decl cw.face cw.sel cw.inst cw.pub cw.unh cw.cast cw.code cw.notMH hK (by rw [hT]; exact hcB) hoB hclB hkB hg (hsize.trans hml.symm) (argsL := As) (rest := rest) (fun sig h => hn.trans (cw.len sig h)) hstack hW (by rw [hb]; exact hdg)
    (fun vm₁ hW₁ => ⟨hf.1, hf.2, hPc (T.setVm vm₁) hT hW₁⟩) with ⟨v, vm₁, ⟨U', l2, c2, s2⟩, hW₁, X', ⟨g', mk, t, L, e1, e2, hq, h1, hL, h2, h3⟩, st⟩ | ⟨q, vm₁, ⟨U', l2, c2, s2⟩, hW₁, X', ⟨g', mk, t, L, E, ce, e1, e2, hq, hce, hcv, hcl, h1, hL, h2, h3⟩, st⟩
  · dsimp only [Pt.U, Pt.locs, Pt.cells, Pt.slots] at X' e1 e2 h1 h2 h3 st
    subst h1; subst h2; subst h3
    exact Or.inl ⟨v, (T.setVm vm₁).calling g' mk (Value.ref b :: As).toArray, t, U', L, hT, X', hL, e1, e2, hq, st⟩
  · dsimp only [Pt.U, Pt.locs, Pt.cells, Pt.slots] at X' e1 e2 h1 h2 h3 st hcl
    subst h1; subst h2; subst h3
    exact Or.inr ⟨q, (T.setVm vm₁).calling g' mk (Value.ref b :: As).toArray, t, U', L, E, ce, hT, X', hL, e1, e2, hq, hce, hcv, vx_cls hW₁ hcl, st⟩
theorem vx_callFv {S SX : Type} {post : S → Prop} {px : SX → Prop} {B : S → State → Prop} {BX : String → SX → State → Prop} {AX : Nat → Prop} (hr : vx_Run5 p l e R s m args below meth c H locs cells slots mc ms (F0 m pc ls st0) rest (va_Qv post B A1 a) (vx_X px BX AX) free) (hS : va_S A0 H0 H locs) (hA : ∀ q, q < H.size → A1 q → A0 q) (hf : ∀ q, free q → A0 q) (hAX : ∀ q, q < H.size → AX q → A0 q)
    (kx : ∀ (E : String) (ce : Cell) (q9 : Addr) (u : SX) (t : State) (H1 : Heap) (locs1 : List Loc), t.heap = H1 → s.vm.Alike t.vm → px u → BX E u t → H.size ≤ H1.size → (∀ q : Nat, q < H.size → ¬ AX q → H1[q]? = H[q]?) → va_S A0 H0 H1 locs1 → H1[q9]? = some ce → ce.vm = .none → s.vm.findClass E = some ce.cls → vx_W p l e R s m args below meth c H1 locs1 (cells + mc) (slots + ms) Q (F0 m pc ls rest) q9)
    (kk : ∀ (u : S) (t : State) (H1 : Heap) (locs1 : List Loc), t.heap = H1 → s.vm.Alike t.vm → post u → B u t → H.size ≤ H1.size → (∀ q : Nat, q < H.size → ¬ A1 q → H1[q]? = H[q]?) → va_S A0 H0 H1 locs1 → W p l e R s m args below meth c H1 locs1 (cells + mc) (slots + ms) Q (F0 m (pc + 5) ls (rest))) : W p l e R s m args below meth c H locs cells slots Q (F0 m pc ls st0) := by
  intro T hT X
  rcases hr T hT X with ⟨v, st₀, t, T', L, h0, X', hL, e1, e2, ⟨⟨u, hv, hp, hb⟩, hF⟩, st⟩ | ⟨q, st₀, t, T', L, E, ce, h0, X', hL, e1, e2, ⟨u, hp, hb, hF⟩, hce, hcv, hcl, st⟩
  · cases hv
    obtain ⟨k1, k2, k3⟩ := vx_keep h0 e1 hS hA hf hL hF
    obtain ⟨t2, a1, b1⟩ := kk u t T'.heap (locs ++ L) e1.symm (by rw [← e2]; exact X'.warmed.alike) hp hb k1 k2 k3 T' rfl X'
    exact ⟨t2, st t2 a1, b1⟩
  · obtain ⟨k1, k2, k3⟩ := vx_keep h0 e1 hS hAX hf hL hF
    obtain ⟨t2, a1, b1⟩ := kx E ce q u t T'.heap (locs ++ L) e1.symm (by rw [← e2]; exact X'.warmed.alike) hp hb k1 k2 k3 (by rw [e1]; exact hce) hcv hcl T' rfl X'
    exact ⟨t2, st.trans a1, b1⟩
theorem vx_callFi {S SX : Type} {post : Int32 → S → Prop} {px : SX → Prop} {B : S → State → Prop} {BX : String → SX → State → Prop} {AX : Nat → Prop} (hr : vx_Run5 p l e R s m args below meth c H locs cells slots mc ms (F0 m pc ls st0) rest (va_Qi post B A1 a) (vx_X px BX AX) free) (hS : va_S A0 H0 H locs) (hA : ∀ q, q < H.size → A1 q → A0 q) (hf : ∀ q, free q → A0 q) (hAX : ∀ q, q < H.size → AX q → A0 q)
    (kx : ∀ (E : String) (ce : Cell) (q9 : Addr) (u : SX) (t : State) (H1 : Heap) (locs1 : List Loc), t.heap = H1 → s.vm.Alike t.vm → px u → BX E u t → H.size ≤ H1.size → (∀ q : Nat, q < H.size → ¬ AX q → H1[q]? = H[q]?) → va_S A0 H0 H1 locs1 → H1[q9]? = some ce → ce.vm = .none → s.vm.findClass E = some ce.cls → vx_W p l e R s m args below meth c H1 locs1 (cells + mc) (slots + ms) Q (F0 m pc ls rest) q9)
    (kk : ∀ (r : Int32) (u : S) (t : State) (H1 : Heap) (locs1 : List Loc), t.heap = H1 → s.vm.Alike t.vm → post r u → B u t → H.size ≤ H1.size → (∀ q : Nat, q < H.size → ¬ A1 q → H1[q]? = H[q]?) → va_S A0 H0 H1 locs1 → W p l e R s m args below meth c H1 locs1 (cells + mc) (slots + ms) Q (F0 m (pc + 5) ls (.int r :: rest))) : W p l e R s m args below meth c H locs cells slots Q (F0 m pc ls st0) := by
  intro T hT X
  rcases hr T hT X with ⟨v, st₀, t, T', L, h0, X', hL, e1, e2, ⟨⟨r, u, hv, hp, hb⟩, hF⟩, st⟩ | ⟨q, st₀, t, T', L, E, ce, h0, X', hL, e1, e2, ⟨u, hp, hb, hF⟩, hce, hcv, hcl, st⟩
  · cases hv
    obtain ⟨k1, k2, k3⟩ := vx_keep h0 e1 hS hA hf hL hF
    obtain ⟨t2, a1, b1⟩ := kk r u t T'.heap (locs ++ L) e1.symm (by rw [← e2]; exact X'.warmed.alike) hp hb k1 k2 k3 T' rfl X'
    exact ⟨t2, st t2 a1, b1⟩
  · obtain ⟨k1, k2, k3⟩ := vx_keep h0 e1 hS hAX hf hL hF
    obtain ⟨t2, a1, b1⟩ := kx E ce q u t T'.heap (locs ++ L) e1.symm (by rw [← e2]; exact X'.warmed.alike) hp hb k1 k2 k3 (by rw [e1]; exact hce) hcv hcl T' rfl X'
    exact ⟨t2, st.trans a1, b1⟩
theorem vx_callFl {S SX : Type} {post : Int64 → S → Prop} {px : SX → Prop} {B : S → State → Prop} {BX : String → SX → State → Prop} {AX : Nat → Prop} (hr : vx_Run5 p l e R s m args below meth c H locs cells slots mc ms (F0 m pc ls st0) rest (va_Ql post B A1 a) (vx_X px BX AX) free) (hS : va_S A0 H0 H locs) (hA : ∀ q, q < H.size → A1 q → A0 q) (hf : ∀ q, free q → A0 q) (hAX : ∀ q, q < H.size → AX q → A0 q)
    (kx : ∀ (E : String) (ce : Cell) (q9 : Addr) (u : SX) (t : State) (H1 : Heap) (locs1 : List Loc), t.heap = H1 → s.vm.Alike t.vm → px u → BX E u t → H.size ≤ H1.size → (∀ q : Nat, q < H.size → ¬ AX q → H1[q]? = H[q]?) → va_S A0 H0 H1 locs1 → H1[q9]? = some ce → ce.vm = .none → s.vm.findClass E = some ce.cls → vx_W p l e R s m args below meth c H1 locs1 (cells + mc) (slots + ms) Q (F0 m pc ls rest) q9)
    (kk : ∀ (r : Int64) (u : S) (t : State) (H1 : Heap) (locs1 : List Loc), t.heap = H1 → s.vm.Alike t.vm → post r u → B u t → H.size ≤ H1.size → (∀ q : Nat, q < H.size → ¬ A1 q → H1[q]? = H[q]?) → va_S A0 H0 H1 locs1 → W p l e R s m args below meth c H1 locs1 (cells + mc) (slots + ms) Q (F0 m (pc + 5) ls (.long r :: rest))) : W p l e R s m args below meth c H locs cells slots Q (F0 m pc ls st0) := by
  intro T hT X
  rcases hr T hT X with ⟨v, st₀, t, T', L, h0, X', hL, e1, e2, ⟨⟨r, u, hv, hp, hb⟩, hF⟩, st⟩ | ⟨q, st₀, t, T', L, E, ce, h0, X', hL, e1, e2, ⟨u, hp, hb, hF⟩, hce, hcv, hcl, st⟩
  · cases hv
    obtain ⟨k1, k2, k3⟩ := vx_keep h0 e1 hS hA hf hL hF
    obtain ⟨t2, a1, b1⟩ := kk r u t T'.heap (locs ++ L) e1.symm (by rw [← e2]; exact X'.warmed.alike) hp hb k1 k2 k3 T' rfl X'
    exact ⟨t2, st t2 a1, b1⟩
  · obtain ⟨k1, k2, k3⟩ := vx_keep h0 e1 hS hAX hf hL hF
    obtain ⟨t2, a1, b1⟩ := kx E ce q u t T'.heap (locs ++ L) e1.symm (by rw [← e2]; exact X'.warmed.alike) hp hb k1 k2 k3 (by rw [e1]; exact hce) hcv hcl T' rfl X'
    exact ⟨t2, st.trans a1, b1⟩
theorem vx_callFf {S SX : Type} {post : UInt32 → S → Prop} {px : SX → Prop} {B : S → State → Prop} {BX : String → SX → State → Prop} {AX : Nat → Prop} (hr : vx_Run5 p l e R s m args below meth c H locs cells slots mc ms (F0 m pc ls st0) rest (va_Qf post B A1 a) (vx_X px BX AX) free) (hS : va_S A0 H0 H locs) (hA : ∀ q, q < H.size → A1 q → A0 q) (hf : ∀ q, free q → A0 q) (hAX : ∀ q, q < H.size → AX q → A0 q)
    (kx : ∀ (E : String) (ce : Cell) (q9 : Addr) (u : SX) (t : State) (H1 : Heap) (locs1 : List Loc), t.heap = H1 → s.vm.Alike t.vm → px u → BX E u t → H.size ≤ H1.size → (∀ q : Nat, q < H.size → ¬ AX q → H1[q]? = H[q]?) → va_S A0 H0 H1 locs1 → H1[q9]? = some ce → ce.vm = .none → s.vm.findClass E = some ce.cls → vx_W p l e R s m args below meth c H1 locs1 (cells + mc) (slots + ms) Q (F0 m pc ls rest) q9)
    (kk : ∀ (r : UInt32) (u : S) (t : State) (H1 : Heap) (locs1 : List Loc), t.heap = H1 → s.vm.Alike t.vm → post r u → B u t → H.size ≤ H1.size → (∀ q : Nat, q < H.size → ¬ A1 q → H1[q]? = H[q]?) → va_S A0 H0 H1 locs1 → W p l e R s m args below meth c H1 locs1 (cells + mc) (slots + ms) Q (F0 m (pc + 5) ls (.float r :: rest))) : W p l e R s m args below meth c H locs cells slots Q (F0 m pc ls st0) := by
  intro T hT X
  rcases hr T hT X with ⟨v, st₀, t, T', L, h0, X', hL, e1, e2, ⟨⟨r, u, hv, hp, hb⟩, hF⟩, st⟩ | ⟨q, st₀, t, T', L, E, ce, h0, X', hL, e1, e2, ⟨u, hp, hb, hF⟩, hce, hcv, hcl, st⟩
  · cases hv
    obtain ⟨k1, k2, k3⟩ := vx_keep h0 e1 hS hA hf hL hF
    obtain ⟨t2, a1, b1⟩ := kk r u t T'.heap (locs ++ L) e1.symm (by rw [← e2]; exact X'.warmed.alike) hp hb k1 k2 k3 T' rfl X'
    exact ⟨t2, st t2 a1, b1⟩
  · obtain ⟨k1, k2, k3⟩ := vx_keep h0 e1 hS hAX hf hL hF
    obtain ⟨t2, a1, b1⟩ := kx E ce q u t T'.heap (locs ++ L) e1.symm (by rw [← e2]; exact X'.warmed.alike) hp hb k1 k2 k3 (by rw [e1]; exact hce) hcv hcl T' rfl X'
    exact ⟨t2, st.trans a1, b1⟩
theorem vx_callFd {S SX : Type} {post : UInt64 → S → Prop} {px : SX → Prop} {B : S → State → Prop} {BX : String → SX → State → Prop} {AX : Nat → Prop} (hr : vx_Run5 p l e R s m args below meth c H locs cells slots mc ms (F0 m pc ls st0) rest (va_Qd post B A1 a) (vx_X px BX AX) free) (hS : va_S A0 H0 H locs) (hA : ∀ q, q < H.size → A1 q → A0 q) (hf : ∀ q, free q → A0 q) (hAX : ∀ q, q < H.size → AX q → A0 q)
    (kx : ∀ (E : String) (ce : Cell) (q9 : Addr) (u : SX) (t : State) (H1 : Heap) (locs1 : List Loc), t.heap = H1 → s.vm.Alike t.vm → px u → BX E u t → H.size ≤ H1.size → (∀ q : Nat, q < H.size → ¬ AX q → H1[q]? = H[q]?) → va_S A0 H0 H1 locs1 → H1[q9]? = some ce → ce.vm = .none → s.vm.findClass E = some ce.cls → vx_W p l e R s m args below meth c H1 locs1 (cells + mc) (slots + ms) Q (F0 m pc ls rest) q9)
    (kk : ∀ (r : UInt64) (u : S) (t : State) (H1 : Heap) (locs1 : List Loc), t.heap = H1 → s.vm.Alike t.vm → post r u → B u t → H.size ≤ H1.size → (∀ q : Nat, q < H.size → ¬ A1 q → H1[q]? = H[q]?) → va_S A0 H0 H1 locs1 → W p l e R s m args below meth c H1 locs1 (cells + mc) (slots + ms) Q (F0 m (pc + 5) ls (.double r :: rest))) : W p l e R s m args below meth c H locs cells slots Q (F0 m pc ls st0) := by
  intro T hT X
  rcases hr T hT X with ⟨v, st₀, t, T', L, h0, X', hL, e1, e2, ⟨⟨r, u, hv, hp, hb⟩, hF⟩, st⟩ | ⟨q, st₀, t, T', L, E, ce, h0, X', hL, e1, e2, ⟨u, hp, hb, hF⟩, hce, hcv, hcl, st⟩
  · cases hv
    obtain ⟨k1, k2, k3⟩ := vx_keep h0 e1 hS hA hf hL hF
    obtain ⟨t2, a1, b1⟩ := kk r u t T'.heap (locs ++ L) e1.symm (by rw [← e2]; exact X'.warmed.alike) hp hb k1 k2 k3 T' rfl X'
    exact ⟨t2, st t2 a1, b1⟩
  · obtain ⟨k1, k2, k3⟩ := vx_keep h0 e1 hS hAX hf hL hF
    obtain ⟨t2, a1, b1⟩ := kx E ce q u t T'.heap (locs ++ L) e1.symm (by rw [← e2]; exact X'.warmed.alike) hp hb k1 k2 k3 (by rw [e1]; exact hce) hcv hcl T' rfl X'
    exact ⟨t2, st.trans a1, b1⟩
end
/-! ===== END ===== -/
/-! ===== BEGIN by an interface, a method with a table of its own that may throw (follows va_callIFW, va_runFW) ===== -/
section
variable {p : Program} {l : Launch} {e : Env} {R : Room} {s : State} {m : MethodId} {args : Array Value} {below : List Frame} {meth : Method} {c : Code} {H : Heap} {locs : List Loc} {cells slots : Nat}
theorem vx_callIFW {T : State} (X : Stand p l e R s m args below meth c T locs cells slots) (hexec : p.tables.exec = Jvm.exec) {own C : String} {index count : Nat} {x y : MethodName} {bytes : ByteArray} {maxL : Nat} {ret : Option FieldType} {hh : List (Nat × Nat × Nat × Nat)}
    (hown : s.vm.findClass own = some m.cls) (hlink : (Cond.methodLink own index x).before args s = true) (hdecl : (Cond.declares x).before args s = true) (hface : (Cond.interfaceMethod x.cls x.cls x.name x.desc).before args s = true)
    (hsel : (Cond.selects C x y).before args s = true) (hinst : (Cond.instanceMethod y).before args s = true) (hpub : (Cond.publicMethod y).before args s = true) (hunh : (Cond.unhidden C x.name x.desc).before args s = true)
    (hcast : (Cond.castable C x.cls).before args s = true) (hcode : (Cond.codeWith y bytes maxL ret hh).before args s = true) (hx : x.cls ≠ "java/lang/invoke/MethodHandle" ∧ x.cls ≠ "java/lang/invoke/VarHandle")
    {W : Nat} {Pre : Pt → Array Value → Prop} {Post : Pt → Array Value → Option Value → Pt → Prop} {PostX : Pt → Array Value → Addr → Pt → Prop} (hK : vx_Back l R p e below s args y 5 W Pre Post PostX)
    {b : Addr} {cellB : Cell} {kB : Class} (hcell : T.heap[b]? = some cellB) (hobj : cellB.vm.isStatics = false) (hcls : s.vm.findClass C = some cellB.cls) (hkB : s.vm.classes[cellB.cls]? = some kB)
    {g : JFrame} (hg : g.method = m) (hsize : g.locals.size = c.maxLocals) {argsL rest : List Value} (hlen : ∀ sig, parseMethodDescriptor x.desc = some sig → argsL.length = sig.parameters.length)
    (hstack : g.stack = argsL.reverse ++ .ref b :: rest) (hW : 2 * g.monitorRoom + (rest.map fun v => v.category).sum ≤ W) (hdg : decode c.code g.pc = .ok (.invokeinterface index count, 5))
    (hpre : ∀ vm₁, s.WarmedH vm₁ → Pre ⟨T.setVm vm₁, locs, cells, slots⟩ (Value.ref b :: argsL).toArray) :
    (∃ (v : Option Value) (vm₁ : Vm) (B : Pt), s.WarmedH vm₁ ∧ Stand p l e R s m args below meth c B.U B.locs B.cells B.slots ∧ Post ⟨T.setVm vm₁, locs, cells, slots⟩ (Value.ref b :: argsL).toArray v B ∧
      ∀ target, Steps p.tables e below (B.U.setTop { g with pc := g.pc + 5, stack := v.toList ++ rest }) target → Steps p.tables e below (T.setTop g) target) ∨
    (∃ (q : Addr) (vm₁ : Vm) (B : Pt), s.WarmedH vm₁ ∧ Stand p l e R s m args below meth c B.U B.locs B.cells B.slots ∧ PostX ⟨T.setVm vm₁, locs, cells, slots⟩ (Value.ref b :: argsL).toArray q B ∧
      Steps p.tables e below (T.setTop g) ((B.U.setTop { g with stack := rest }).pushFrame (.throwing q))) := by
  obtain ⟨r0, r, hn, hrm, hstR, hsigR⟩ := Cond.declares_spec hdecl
  obtain ⟨cL, kL, r1, hcL, hkL, hiL, hfoundL, hn1⟩ := Cond.interfaceMethod_spec hface
  cases hn.symm.trans hn1
  have hr0cls : r0.cls = cL := Option.some.inj ((findClass_of_methodNamed hn).symm.trans hcL)
  obtain ⟨hnameR, hdescR⟩ := name_of_methodNamed hn hrm
  obtain ⟨mk, methM, hnamed, hmethM, -, habM⟩ := Cond.instanceMethod_spec hinst
  obtain ⟨c2, r2, m2, q1, q2, q3, q4, -⟩ := Cond.selects_spec hsel
  cases hcls.symm.trans q1
  cases hfoundL.symm.trans q2
  cases hnamed.symm.trans q3
  have hselP : selectMethod e.platform s.vm cellB.cls r0 = .method mk := by rw [Launch.admits_selectMethod X.admits]; exact q4
  have hpubM : hasFlag methM.accessFlags Acc.public_ = true := Cond.publicMethod_spec hnamed hmethM hpub
  have hway : ((cellB.cls :: s.vm.superclasses cellB.cls).any fun k => (declaredIn s.vm r.name r.desc k).any fun (_, z) => z.isPrivate || z.isStatic) = false := by
    rw [hnameR, hdescR]; exact Cond.unhidden_spec hcls hunh
  obtain ⟨c3, t3, w1, w2, w3⟩ := Cond.castable_spec hcast
  cases hcls.symm.trans w1
  cases hcL.symm.trans w2
  obtain ⟨vm₁, X₁, hstep₁⟩ := X.invokeinterface hexec hown hlink hn hrm hstR (by rw [hr0cls]; exact hkL) hiL hx (a := b) (cell := cellB) (kcell := kB) hcell
    (fun z h => by rw [h] at hobj; cases hobj) hkB (by rw [hr0cls]; exact w3) hselP hmethM hway hpubM habM (g := g) hg (argsL := argsL) (rest := rest) (hlen _ hsigR) hstack hdg
  rcases hK m meth c ⟨T.setVm vm₁, locs, cells, slots⟩ { g with stack := rest } (.invokeinterface index count) mk (Value.ref b :: argsL).toArray X₁ hg hsize hdg hW (X₁.named hnamed) (hpre vm₁ X₁.warmed) with ⟨v, B, X', hpost, hsteps⟩ | ⟨q, B, X', hpost, hsteps⟩
  · exact Or.inl ⟨v, vm₁, B, X₁.warmed, X', hpost, fun target h => hstep₁ _ fun acts => by rw [doInvoke_state]; exact hsteps.trans h⟩
  · exact Or.inr ⟨q, vm₁, B, X₁.warmed, X', hpost, hstep₁ _ fun acts => by rw [doInvoke_state]; exact hsteps⟩
theorem vx_runFW {x y : MethodName} {bytes cc : ByteArray} {maxL nL mc ms n index count : Nat} {ret : Option FieldType} {hh : List (Nat × Nat × Nat × Nat)} {ws : List Cond} {rm : Room} {Pc : Array Value → State → Prop} {Qc : Array Value → State → Outcome → State → Prop} {XC : String → State → State → Prop} {free : Addr → Prop} {Ts : List Cond} {own C : String} {cC : ClassId} {b : Addr} {As rest : List Value} {g : JFrame}
    (hat : ClassAt s C cC) (S : CallFix p m c cc nL s args Ts own) (hM : vx_Met l y ws rm Pc Qc XC mc ms free) (cw : va_CIW R s args own C index x y bytes maxL ret hh ws rm mc ms n) (hp : PreV s H C b Pc As)
    (hg : g.method = m) (hn : As.length = n) (hsize : g.locals.size = nL) (hstack : g.stack = As.reverse ++ .ref b :: rest) (hW : 2 * g.monitorRoom + (rest.map fun v => v.category).sum ≤ 8) (hdg : decode cc g.pc = .ok (.invokeinterface index count, 5)) (hf : cells + mc ≤ R.cells ∧ slots + ms ≤ R.slots) :
    vx_Run5 p l e R s m args below meth c H locs cells slots mc ms g rest (Qc (Value.ref b :: As).toArray) XC free := by
  obtain ⟨hrc, hrs, hfr, hlo, hws, hcw⟩ := cw.back
  have hini := cw.init
  have hK : vx_Back l R p e below s args y 5 8 (PreOf R mc ms Pc) (PostOf Qc mc ms free) (vx_Post XC mc ms free) := vx_backW (hh := hh) (bytes := bytes) (maxL := maxL) (ret := ret) hM hp.1 hrc hrs hfr hlo hws hcw (fun a' U hW => word_at hW (Or.inl (by first | rfl | simp [Cond.onTables, Cond.keeps, Cond.steady])) hini)
  obtain ⟨hx, hb, hml, ho, -⟩ := S
  obtain ⟨-, ⟨cellB, hcB, hoB, hclB⟩, hPc⟩ := hp
  obtain ⟨hfc, kB, hkB, -⟩ := hat
  cases hfc.symm.trans hclB
  intro T hT X
  rcases vx_callIFW X hx (C := C) (hh := hh) (bytes := bytes) (maxL := maxL) (ret := ret) ho cw.link cw.decl cw.face cw.sel cw.inst cw.pub cw.unh cw.cast cw.code cw.notMH hK (by rw [hT]; exact hcB) hoB hclB hkB hg (hsize.trans hml.symm) (argsL := As) (rest := rest) (fun sig h => hn.trans (cw.len sig h)) hstack hW (by rw [hb]; exact hdg)
    (fun vm₁ hW₁ => ⟨hf.1, hf.2, hPc (T.setVm vm₁) hT hW₁⟩) with ⟨v, vm₁, ⟨U', l2, c2, s2⟩, hW₁, X', ⟨g', mk, t, L, e1, e2, hq, h1, hL, h2, h3⟩, st⟩ | ⟨q, vm₁, ⟨U', l2, c2, s2⟩, hW₁, X', ⟨g', mk, t, L, E, ce, e1, e2, hq, hce, hcv, hcl, h1, hL, h2, h3⟩, st⟩
  · dsimp only [Pt.U, Pt.locs, Pt.cells, Pt.slots] at X' e1 e2 h1 h2 h3 st
    subst h1; subst h2; subst h3
    exact Or.inl ⟨v, (T.setVm vm₁).calling g' mk (Value.ref b :: As).toArray, t, U', L, hT, X', hL, e1, e2, hq, st⟩
  · dsimp only [Pt.U, Pt.locs, Pt.cells, Pt.slots] at X' e1 e2 h1 h2 h3 st hcl
    subst h1; subst h2; subst h3
    exact Or.inr ⟨q, (T.setVm vm₁).calling g' mk (Value.ref b :: As).toArray, t, U', L, E, ce, hT, X', hL, e1, e2, hq, hce, hcv, vx_cls hW₁ hcl, st⟩
end
/-! ===== END ===== -/
/-! ===== BEGIN .. of methods that hand back an object of the pool ===== -/
section
variable {p : Program} {l : Launch} {e : Env} {R : Room} {s : State} {m : MethodId} {args : Array Value} {below : List Frame} {meth : Method} {c : Code} {H : Heap} {locs : List Loc} {cells slots : Nat} {Q : State → Prop}
variable {mc ms : Nat} {free : Addr → Prop} {A0 A1 : Nat → Prop} {H0 : Heap} {a : Array Value} {pc : Nat} {ls : Array Slot} {st0 rest : List Value}
theorem vx_callq {S SX : Type} {post : Option Nat → S → Prop} {px : SX → Prop} {B : S → State → Prop} {BX : String → SX → State → Prop} {AX : Nat → Prop} (hr : vx_Run p l e R s m args below meth c H locs cells slots mc ms (F0 m pc ls st0) rest (va_Qq post B A1 a) (vx_X px BX AX) free) (hS : va_S A0 H0 H locs) (hA : ∀ q, q < H.size → A1 q → A0 q) (hf : ∀ q, free q → A0 q) (hAX : ∀ q, q < H.size → AX q → A0 q)
    (kx : ∀ (E : String) (ce : Cell) (q9 : Addr) (u : SX) (t : State) (H1 : Heap) (locs1 : List Loc), t.heap = H1 → s.vm.Alike t.vm → px u → BX E u t → H.size ≤ H1.size → (∀ q : Nat, q < H.size → ¬ AX q → H1[q]? = H[q]?) → va_S A0 H0 H1 locs1 → H1[q9]? = some ce → ce.vm = .none → s.vm.findClass E = some ce.cls → vx_W p l e R s m args below meth c H1 locs1 (cells + mc) (slots + ms) Q (F0 m pc ls rest) q9)
    (kk : ∀ (r : Option Nat) (u : S) (t : State) (H1 : Heap) (locs1 : List Loc), t.heap = H1 → s.vm.Alike t.vm → post r u → B u t → H.size ≤ H1.size → (∀ q : Nat, q < H.size → ¬ A1 q → H1[q]? = H[q]?) → va_S A0 H0 H1 locs1 → W p l e R s m args below meth c H1 locs1 (cells + mc) (slots + ms) Q (F0 m (pc + 3) ls (va_rf r :: rest))) : W p l e R s m args below meth c H locs cells slots Q (F0 m pc ls st0) := by
  intro T hT X
  rcases hr T hT X with ⟨v, st₀, t, T', L, h0, X', hL, e1, e2, ⟨⟨r, u, hv, hp, hb⟩, hF⟩, st⟩ | ⟨q, st₀, t, T', L, E, ce, h0, X', hL, e1, e2, ⟨u, hp, hb, hF⟩, hce, hcv, hcl, st⟩
  · cases hv
    obtain ⟨k1, k2, k3⟩ := vx_keep h0 e1 hS hA hf hL hF
    obtain ⟨t2, a1, b1⟩ := kk r u t T'.heap (locs ++ L) e1.symm (by rw [← e2]; exact X'.warmed.alike) hp hb k1 k2 k3 T' rfl X'
    exact ⟨t2, st t2 a1, b1⟩
  · obtain ⟨k1, k2, k3⟩ := vx_keep h0 e1 hS hAX hf hL hF
    obtain ⟨t2, a1, b1⟩ := kx E ce q u t T'.heap (locs ++ L) e1.symm (by rw [← e2]; exact X'.warmed.alike) hp hb k1 k2 k3 (by rw [e1]; exact hce) hcv hcl T' rfl X'
    exact ⟨t2, st.trans a1, b1⟩
end
/-! ===== END ===== -/
/-! ===== BEGIN .. a constant ===== -/
section
variable {p : Program} {l : Launch} {e : Env} {R : Room} {s : State} {m : MethodId} {args : Array Value} {below : List Frame} {meth : Method} {c : Code} {H : Heap} {locs : List Loc} {cells slots : Nat} {Q : State → Prop}
variable {mc ms : Nat} {free : Addr → Prop} {A0 A1 : Nat → Prop} {H0 : Heap} {a : Array Value} {pc : Nat} {ls : Array Slot} {st0 rest : List Value}
theorem vx_calle {ad : Nat → Nat} {S SX : Type} {post : Option Nat → S → Prop} {px : SX → Prop} {B : S → State → Prop} {BX : String → SX → State → Prop} {AX : Nat → Prop} (hr : vx_Run p l e R s m args below meth c H locs cells slots mc ms (F0 m pc ls st0) rest (va_Qe ad post B A1 a) (vx_X px BX AX) free) (hS : va_S A0 H0 H locs) (hA : ∀ q, q < H.size → A1 q → A0 q) (hf : ∀ q, free q → A0 q) (hAX : ∀ q, q < H.size → AX q → A0 q)
    (kx : ∀ (E : String) (ce : Cell) (q9 : Addr) (u : SX) (t : State) (H1 : Heap) (locs1 : List Loc), t.heap = H1 → s.vm.Alike t.vm → px u → BX E u t → H.size ≤ H1.size → (∀ q : Nat, q < H.size → ¬ AX q → H1[q]? = H[q]?) → va_S A0 H0 H1 locs1 → H1[q9]? = some ce → ce.vm = .none → s.vm.findClass E = some ce.cls → vx_W p l e R s m args below meth c H1 locs1 (cells + mc) (slots + ms) Q (F0 m pc ls rest) q9)
    (kk : ∀ (r : Option Nat) (u : S) (t : State) (H1 : Heap) (locs1 : List Loc), t.heap = H1 → s.vm.Alike t.vm → post r u → B u t → H.size ≤ H1.size → (∀ q : Nat, q < H.size → ¬ A1 q → H1[q]? = H[q]?) → va_S A0 H0 H1 locs1 → W p l e R s m args below meth c H1 locs1 (cells + mc) (slots + ms) Q (F0 m (pc + 3) ls (va_re ad r :: rest))) : W p l e R s m args below meth c H locs cells slots Q (F0 m pc ls st0) := by
  intro T hT X
  rcases hr T hT X with ⟨v, st₀, t, T', L, h0, X', hL, e1, e2, ⟨⟨r, u, hv, hp, hb⟩, hF⟩, st⟩ | ⟨q, st₀, t, T', L, E, ce, h0, X', hL, e1, e2, ⟨u, hp, hb, hF⟩, hce, hcv, hcl, st⟩
  · cases hv
    obtain ⟨k1, k2, k3⟩ := vx_keep h0 e1 hS hA hf hL hF
    obtain ⟨t2, a1, b1⟩ := kk r u t T'.heap (locs ++ L) e1.symm (by rw [← e2]; exact X'.warmed.alike) hp hb k1 k2 k3 T' rfl X'
    exact ⟨t2, st t2 a1, b1⟩
  · obtain ⟨k1, k2, k3⟩ := vx_keep h0 e1 hS hAX hf hL hF
    obtain ⟨t2, a1, b1⟩ := kx E ce q u t T'.heap (locs ++ L) e1.symm (by rw [← e2]; exact X'.warmed.alike) hp hb k1 k2 k3 (by rw [e1]; exact hce) hcv hcl T' rfl X'
    exact ⟨t2, st.trans a1, b1⟩
end
/-! ===== END ===== -/
/-! ===== BEGIN .. by an interface, an object ===== -/
section
variable {p : Program} {l : Launch} {e : Env} {R : Room} {s : State} {m : MethodId} {args : Array Value} {below : List Frame} {meth : Method} {c : Code} {H : Heap} {locs : List Loc} {cells slots : Nat} {Q : State → Prop}
variable {mc ms : Nat} {free : Addr → Prop} {A0 A1 : Nat → Prop} {H0 : Heap} {a : Array Value} {pc : Nat} {ls : Array Slot} {st0 rest : List Value}
theorem vx_callFq {S SX : Type} {post : Option Nat → S → Prop} {px : SX → Prop} {B : S → State → Prop} {BX : String → SX → State → Prop} {AX : Nat → Prop} (hr : vx_Run5 p l e R s m args below meth c H locs cells slots mc ms (F0 m pc ls st0) rest (va_Qq post B A1 a) (vx_X px BX AX) free) (hS : va_S A0 H0 H locs) (hA : ∀ q, q < H.size → A1 q → A0 q) (hf : ∀ q, free q → A0 q) (hAX : ∀ q, q < H.size → AX q → A0 q)
    (kx : ∀ (E : String) (ce : Cell) (q9 : Addr) (u : SX) (t : State) (H1 : Heap) (locs1 : List Loc), t.heap = H1 → s.vm.Alike t.vm → px u → BX E u t → H.size ≤ H1.size → (∀ q : Nat, q < H.size → ¬ AX q → H1[q]? = H[q]?) → va_S A0 H0 H1 locs1 → H1[q9]? = some ce → ce.vm = .none → s.vm.findClass E = some ce.cls → vx_W p l e R s m args below meth c H1 locs1 (cells + mc) (slots + ms) Q (F0 m pc ls rest) q9)
    (kk : ∀ (r : Option Nat) (u : S) (t : State) (H1 : Heap) (locs1 : List Loc), t.heap = H1 → s.vm.Alike t.vm → post r u → B u t → H.size ≤ H1.size → (∀ q : Nat, q < H.size → ¬ A1 q → H1[q]? = H[q]?) → va_S A0 H0 H1 locs1 → W p l e R s m args below meth c H1 locs1 (cells + mc) (slots + ms) Q (F0 m (pc + 5) ls (va_rf r :: rest))) : W p l e R s m args below meth c H locs cells slots Q (F0 m pc ls st0) := by
  intro T hT X
  rcases hr T hT X with ⟨v, st₀, t, T', L, h0, X', hL, e1, e2, ⟨⟨r, u, hv, hp, hb⟩, hF⟩, st⟩ | ⟨q, st₀, t, T', L, E, ce, h0, X', hL, e1, e2, ⟨u, hp, hb, hF⟩, hce, hcv, hcl, st⟩
  · cases hv
    obtain ⟨k1, k2, k3⟩ := vx_keep h0 e1 hS hA hf hL hF
    obtain ⟨t2, a1, b1⟩ := kk r u t T'.heap (locs ++ L) e1.symm (by rw [← e2]; exact X'.warmed.alike) hp hb k1 k2 k3 T' rfl X'
    exact ⟨t2, st t2 a1, b1⟩
  · obtain ⟨k1, k2, k3⟩ := vx_keep h0 e1 hS hAX hf hL hF
    obtain ⟨t2, a1, b1⟩ := kx E ce q u t T'.heap (locs ++ L) e1.symm (by rw [← e2]; exact X'.warmed.alike) hp hb k1 k2 k3 (by rw [e1]; exact hce) hcv hcl T' rfl X'
    exact ⟨t2, st.trans a1, b1⟩
end
/-! ===== END ===== -/
/-! ===== BEGIN .. by an interface, a constant ===== -/
section
variable {p : Program} {l : Launch} {e : Env} {R : Room} {s : State} {m : MethodId} {args : Array Value} {below : List Frame} {meth : Method} {c : Code} {H : Heap} {locs : List Loc} {cells slots : Nat} {Q : State → Prop}
variable {mc ms : Nat} {free : Addr → Prop} {A0 A1 : Nat → Prop} {H0 : Heap} {a : Array Value} {pc : Nat} {ls : Array Slot} {st0 rest : List Value}
theorem vx_callFe {ad : Nat → Nat} {S SX : Type} {post : Option Nat → S → Prop} {px : SX → Prop} {B : S → State → Prop} {BX : String → SX → State → Prop} {AX : Nat → Prop} (hr : vx_Run5 p l e R s m args below meth c H locs cells slots mc ms (F0 m pc ls st0) rest (va_Qe ad post B A1 a) (vx_X px BX AX) free) (hS : va_S A0 H0 H locs) (hA : ∀ q, q < H.size → A1 q → A0 q) (hf : ∀ q, free q → A0 q) (hAX : ∀ q, q < H.size → AX q → A0 q)
    (kx : ∀ (E : String) (ce : Cell) (q9 : Addr) (u : SX) (t : State) (H1 : Heap) (locs1 : List Loc), t.heap = H1 → s.vm.Alike t.vm → px u → BX E u t → H.size ≤ H1.size → (∀ q : Nat, q < H.size → ¬ AX q → H1[q]? = H[q]?) → va_S A0 H0 H1 locs1 → H1[q9]? = some ce → ce.vm = .none → s.vm.findClass E = some ce.cls → vx_W p l e R s m args below meth c H1 locs1 (cells + mc) (slots + ms) Q (F0 m pc ls rest) q9)
    (kk : ∀ (r : Option Nat) (u : S) (t : State) (H1 : Heap) (locs1 : List Loc), t.heap = H1 → s.vm.Alike t.vm → post r u → B u t → H.size ≤ H1.size → (∀ q : Nat, q < H.size → ¬ A1 q → H1[q]? = H[q]?) → va_S A0 H0 H1 locs1 → W p l e R s m args below meth c H1 locs1 (cells + mc) (slots + ms) Q (F0 m (pc + 5) ls (va_re ad r :: rest))) : W p l e R s m args below meth c H locs cells slots Q (F0 m pc ls st0) := by
  intro T hT X
  rcases hr T hT X with ⟨v, st₀, t, T', L, h0, X', hL, e1, e2, ⟨⟨r, u, hv, hp, hb⟩, hF⟩, st⟩ | ⟨q, st₀, t, T', L, E, ce, h0, X', hL, e1, e2, ⟨u, hp, hb, hF⟩, hce, hcv, hcl, st⟩
  · cases hv
    obtain ⟨k1, k2, k3⟩ := vx_keep h0 e1 hS hA hf hL hF
    obtain ⟨t2, a1, b1⟩ := kk r u t T'.heap (locs ++ L) e1.symm (by rw [← e2]; exact X'.warmed.alike) hp hb k1 k2 k3 T' rfl X'
    exact ⟨t2, st t2 a1, b1⟩
  · obtain ⟨k1, k2, k3⟩ := vx_keep h0 e1 hS hAX hf hL hF
    obtain ⟨t2, a1, b1⟩ := kx E ce q u t T'.heap (locs ++ L) e1.symm (by rw [← e2]; exact X'.warmed.alike) hp hb k1 k2 k3 (by rw [e1]; exact hce) hcv hcl T' rfl X'
    exact ⟨t2, st.trans a1, b1⟩
end
/-! ===== END ===== -/
/-! ===== BEGIN what the machine throws by itself: null at a field, at athrow ===== -/
section VXM2
variable {p : Program} {l : Launch} {e : Env} {R : Room} {s : State} {m : MethodId} {args : Array Value} {below : List Frame} {meth : Method} {c : Code} {H : Heap} {locs : List Loc} {cells slots : Nat}
variable {Q : State → Prop} {cc : ByteArray} {pc : Nat} {ls : Array Slot} {rest : List Value}
theorem vx_getfN {D cl tys} {own ref C : String} {T : u_T} {N ci index : Nat} {Ts : List Cond} (hexec : p.tables.exec = Jvm.exec) (hb : c.code = cc) (hts : ∀ w ∈ Ts, w.before args s = true) (hin : ∀ w ∈ u_ws C T N, w ∈ Ts) (hown : s.vm.findClass own = some m.cls) (hK : va_K D cl tys s) (hc : cl[ci]? = some (C, T, N)) (k : Nat) (hk : k < N) (hlink : (Cond.fieldLink own index ref (T k).2.1 (T k).2.2.1).before args s = true) (hsame : ∀ x, s.fieldFound? (T k).1 (T k).2.1 (T k).2.2.1 = some x → s.fieldFound? ref (T k).2.1 (T k).2.2.1 = some x) (hdg : decode cc pc = .ok (.getfield index, 3)) (kk : vx_NoteN p l e R s m args below meth c H locs cells slots Q (F0 m pc ls rest)) : W p l e R s m args below meth c H locs cells slots Q (F0 m pc ls (.null :: rest)) := by
  obtain ⟨hS, hfc, kC, hkC, -⟩ := hK.1 ci _ hc
  obtain ⟨cf, kf, fi, f, hi, -⟩ := hS k hk
  intro U hU X
  obtain ⟨vm', X1, st1⟩ := X.getfieldNull hexec hown hlink (hsame _ hi) (u_facts hfc hkC (u_lays hts hin hk) hi).1 (g := F0 m pc ls (.null :: rest)) rfl (rest := rest) rfl (by rw [hb]; exact hdg)
  obtain ⟨t, st, q⟩ := kk (U.setVm vm') hU X1
  exact ⟨t, st1 t st, q⟩
theorem vx_getfNN {D cl tys} {own ref C host : String} {T : u_T} {N ci index : Nat} {Ts : List Cond} (hexec : p.tables.exec = Jvm.exec) (hb : c.code = cc) (hts : ∀ w ∈ Ts, w.before args s = true) (hin : ∀ w ∈ u_ws C T N, w ∈ Ts) (hown : s.vm.findClass own = some m.cls) (hK : va_K D cl tys s) (hc : cl[ci]? = some (C, T, N)) (k : Nat) (hk : k < N) (hlink : (Cond.fieldLinkNest own index ref (T k).2.1 (T k).2.2.1 host).before args s = true) (hsame : ∀ x, s.fieldFound? (T k).1 (T k).2.1 (T k).2.2.1 = some x → s.fieldFound? ref (T k).2.1 (T k).2.2.1 = some x) (hdg : decode cc pc = .ok (.getfield index, 3)) (kk : vx_NoteN p l e R s m args below meth c H locs cells slots Q (F0 m pc ls rest)) : W p l e R s m args below meth c H locs cells slots Q (F0 m pc ls (.null :: rest)) := by
  obtain ⟨hS, hfc, kC, hkC, -⟩ := hK.1 ci _ hc
  obtain ⟨cf, kf, fi, f, hi, -⟩ := hS k hk
  intro U hU X
  obtain ⟨vm', X1, st1⟩ := X.getfieldNullNest hexec hown hlink (hsame _ hi) (u_facts hfc hkC (u_lays hts hin hk) hi).1 (g := F0 m pc ls (.null :: rest)) rfl (rest := rest) rfl (by rw [hb]; exact hdg)
  obtain ⟨t, st, q⟩ := kk (U.setVm vm') hU X1
  exact ⟨t, st1 t st, q⟩
theorem vx_putfN {D cl tys} {own ref C : String} {T : u_T} {N ci index : Nat} {Ts : List Cond} (hexec : p.tables.exec = Jvm.exec) (hb : c.code = cc) (hts : ∀ w ∈ Ts, w.before args s = true) (hin : ∀ w ∈ u_ws C T N, w ∈ Ts) (hown : s.vm.findClass own = some m.cls) (hK : va_K D cl tys s) (hc : cl[ci]? = some (C, T, N)) (k : Nat) (hk : k < N) (hlink : (Cond.fieldLink own index ref (T k).2.1 (T k).2.2.1).before args s = true) (hsame : ∀ x, s.fieldFound? (T k).1 (T k).2.1 (T k).2.2.1 = some x → s.fieldFound? ref (T k).2.1 (T k).2.2.1 = some x) (hfin : (T k).2.2.2 = false) {v : Value} (hdg : decode cc pc = .ok (.putfield index, 3)) (kk : vx_NoteN p l e R s m args below meth c H locs cells slots Q (F0 m pc ls rest)) : W p l e R s m args below meth c H locs cells slots Q (F0 m pc ls (v :: .null :: rest)) := by
  obtain ⟨hS, hfc, kC, hkC, -⟩ := hK.1 ci _ hc
  obtain ⟨cf, kf, fi, f, hi, -⟩ := hS k hk
  have hlay := hts _ (hin _ (u_in_lay hk))
  unfold u_lay at hlay
  rw [if_neg (by rw [hfin]; decide)] at hlay
  obtain ⟨c9, k9, cf9, kf9, fi9, f9, -, -, hi9, hst9, hnf9, -⟩ := Cond.lays_spec hlay
  cases hi.symm.trans hi9
  intro U hU X
  obtain ⟨vm', X1, st1⟩ := X.putfieldNull hexec hown hlink (hsame _ hi) hst9 hnf9 (g := F0 m pc ls (v :: .null :: rest)) rfl (v := v) (rest := rest) rfl (by rw [hb]; exact hdg)
  obtain ⟨t, st, q⟩ := kk (U.setVm vm') hU X1
  exact ⟨t, st1 t st, q⟩
theorem vx_putfNN {D cl tys} {own ref C host : String} {T : u_T} {N ci index : Nat} {Ts : List Cond} (hexec : p.tables.exec = Jvm.exec) (hb : c.code = cc) (hts : ∀ w ∈ Ts, w.before args s = true) (hin : ∀ w ∈ u_ws C T N, w ∈ Ts) (hown : s.vm.findClass own = some m.cls) (hK : va_K D cl tys s) (hc : cl[ci]? = some (C, T, N)) (k : Nat) (hk : k < N) (hlink : (Cond.fieldLinkNest own index ref (T k).2.1 (T k).2.2.1 host).before args s = true) (hsame : ∀ x, s.fieldFound? (T k).1 (T k).2.1 (T k).2.2.1 = some x → s.fieldFound? ref (T k).2.1 (T k).2.2.1 = some x) (hfin : (T k).2.2.2 = false) {v : Value} (hdg : decode cc pc = .ok (.putfield index, 3)) (kk : vx_NoteN p l e R s m args below meth c H locs cells slots Q (F0 m pc ls rest)) : W p l e R s m args below meth c H locs cells slots Q (F0 m pc ls (v :: .null :: rest)) := by
  obtain ⟨hS, hfc, kC, hkC, -⟩ := hK.1 ci _ hc
  obtain ⟨cf, kf, fi, f, hi, -⟩ := hS k hk
  have hlay := hts _ (hin _ (u_in_lay hk))
  unfold u_lay at hlay
  rw [if_neg (by rw [hfin]; decide)] at hlay
  obtain ⟨c9, k9, cf9, kf9, fi9, f9, -, -, hi9, hst9, hnf9, -⟩ := Cond.lays_spec hlay
  cases hi.symm.trans hi9
  intro U hU X
  obtain ⟨vm', X1, st1⟩ := X.putfieldNullNest hexec hown hlink (hsame _ hi) hst9 hnf9 (g := F0 m pc ls (v :: .null :: rest)) rfl (v := v) (rest := rest) rfl (by rw [hb]; exact hdg)
  obtain ⟨t, st, q⟩ := kk (U.setVm vm') hU X1
  exact ⟨t, st1 t st, q⟩
theorem vx_athrowN (hexec : p.tables.exec = Jvm.exec) (hb : c.code = cc) (hdg : decode cc pc = .ok (.athrow, 1)) (k : vx_NoteN p l e R s m args below meth c H locs cells slots Q (F0 m pc ls rest)) : W p l e R s m args below meth c H locs cells slots Q (F0 m pc ls (.null :: rest)) := by
  intro T hT X
  obtain ⟨t, st, q⟩ := k T hT X
  exact ⟨t, X.athrowNull hexec (g := F0 m pc ls (.null :: rest)) rfl (rest := rest) rfl (by rw [hb]; exact hdg) t st, q⟩
end VXM2
/-! ===== END ===== -/
end
section
/-! The static tables: classes by number, methods by number, links by (class, pool index). Made by wip/whole/gen/gen3.py. -/
def RX0 : String := "LineBalls$Ball"
def TX0 : u_T := fun k => match k with
  | 0 => ("LineBalls$Ball", "name", "I", false)
  | 1 => ("LineBalls$Ball", "cell", "I", false)
  | 2 => ("LineBalls$Ball", "speed", "I", false)
  | 3 => ("LineBalls$Ball", "weight", "I", false)
  | 4 => ("LineBalls$Ball", "saved", "I", false)
  | 5 => ("LineBalls$Ball", "went", "I", false)
  | 6 => ("LineBalls$Ball", "hits", "I", false)
  | 7 => ("LineBalls$Ball", "bounces", "I", false)
  | 8 => ("LineBalls$Ball", "waits", "I", false)
  | 9 => ("LineBalls$Ball", "dueSide", "I", false)
  | _ => ("LineBalls$Ball", "struck", "Z", false)
def tyX0 : Nat → FieldType := fun k => match k with
  | 0 => .int
  | 1 => .int
  | 2 => .int
  | 3 => .int
  | 4 => .int
  | 5 => .int
  | 6 => .int
  | 7 => .int
  | 8 => .int
  | 9 => .int
  | _ => .boolean
theorem nmX0 : ∀ a, a < 11 → ∀ b, b < 11 → a ≠ b → (TX0 a).2.1 ≠ (TX0 b).2.1 := by decide +kernel
theorem tyX0_ok : ∀ k, k < 11 → parseFieldDescriptor (TX0 k).2.2.1 = some (tyX0 k) := by decide +kernel
def RX1 : String := "LineBalls$Barrier"
def TX1 : u_T := fun k => match k with
  | 0 => ("LineBalls$Barrier", "cell", "I", false)
  | 1 => ("LineBalls$Barrier", "steals", "I", false)
  | _ => ("LineBalls$Barrier", "bounces", "I", false)
def tyX1 : Nat → FieldType := fun k => match k with
  | 0 => .int
  | 1 => .int
  | _ => .int
theorem nmX1 : ∀ a, a < 3 → ∀ b, b < 3 → a ≠ b → (TX1 a).2.1 ≠ (TX1 b).2.1 := by decide +kernel
theorem tyX1_ok : ∀ k, k < 3 → parseFieldDescriptor (TX1 k).2.2.1 = some (tyX1 k) := by decide +kernel
def RX2 : String := "LineBalls$Book"
def TX2 : u_T := fun k => match k with
  | 0 => ("LineBalls$Book", "pairs", "[I", true)
  | 1 => ("LineBalls$Book", "got", "J", false)
  | 2 => ("LineBalls$Book", "traded", "J", false)
  | 3 => ("LineBalls$Book", "pushed", "J", false)
  | 4 => ("LineBalls$Book", "hits", "I", false)
  | 5 => ("LineBalls$Book", "bounces", "I", false)
  | 6 => ("LineBalls$Book", "waits", "I", false)
  | _ => ("LineBalls$Book", "went", "I", false)
def tyX2 : Nat → FieldType := fun k => match k with
  | 0 => .array .int
  | 1 => .long
  | 2 => .long
  | 3 => .long
  | 4 => .int
  | 5 => .int
  | 6 => .int
  | _ => .int
theorem nmX2 : ∀ a, a < 8 → ∀ b, b < 8 → a ≠ b → (TX2 a).2.1 ≠ (TX2 b).2.1 := by decide +kernel
theorem tyX2_ok : ∀ k, k < 8 → parseFieldDescriptor (TX2 k).2.2.1 = some (tyX2 k) := by decide +kernel
def RX3 : String := "LineBalls$History"
def TX3 : u_T := fun k => match k with
  | 0 => ("LineBalls$History", "past", "[LLineBalls$Line;", true)
  | 1 => ("LineBalls$History", "first", "I", false)
  | _ => ("LineBalls$History", "count", "I", false)
def tyX3 : Nat → FieldType := fun k => match k with
  | 0 => .array (.object "LineBalls$Line")
  | 1 => .int
  | _ => .int
theorem nmX3 : ∀ a, a < 3 → ∀ b, b < 3 → a ≠ b → (TX3 a).2.1 ≠ (TX3 b).2.1 := by decide +kernel
theorem tyX3_ok : ∀ k, k < 3 → parseFieldDescriptor (TX3 k).2.2.1 = some (tyX3 k) := by decide +kernel
def RX4 : String := "LineBalls$Line"
def TX4 : u_T := fun k => match k with
  | 0 => ("LineBalls$Line", "cells", "I", false)
  | 1 => ("LineBalls$Line", "time", "I", false)
  | 2 => ("LineBalls$Line", "balls", "[LLineBalls$Ball;", true)
  | 3 => ("LineBalls$Line", "ballCount", "I", false)
  | 4 => ("LineBalls$Line", "order", "[I", true)
  | 5 => ("LineBalls$Line", "posts", "[LLineBalls$Barrier;", true)
  | 6 => ("LineBalls$Line", "postCount", "I", false)
  | 7 => ("LineBalls$Line", "leftWall", "LLineBalls$Barrier;", true)
  | 8 => ("LineBalls$Line", "rightWall", "LLineBalls$Barrier;", true)
  | 9 => ("LineBalls$Line", "log", "LLineBalls$Log;", true)
  | _ => ("LineBalls$Line", "book", "LLineBalls$Book;", true)
def tyX4 : Nat → FieldType := fun k => match k with
  | 0 => .int
  | 1 => .int
  | 2 => .array (.object "LineBalls$Ball")
  | 3 => .int
  | 4 => .array .int
  | 5 => .array (.object "LineBalls$Barrier")
  | 6 => .int
  | 7 => .object "LineBalls$Barrier"
  | 8 => .object "LineBalls$Barrier"
  | 9 => .object "LineBalls$Log"
  | _ => .object "LineBalls$Book"
theorem nmX4 : ∀ a, a < 11 → ∀ b, b < 11 → a ≠ b → (TX4 a).2.1 ≠ (TX4 b).2.1 := by decide +kernel
theorem tyX4_ok : ∀ k, k < 11 → parseFieldDescriptor (TX4 k).2.2.1 = some (tyX4 k) := by decide +kernel
def RX5 : String := "LineBalls$Log"
def TX5 : u_T := fun k => match k with
  | 0 => ("LineBalls$Log", "times", "[I", true)
  | 1 => ("LineBalls$Log", "movers", "[I", true)
  | 2 => ("LineBalls$Log", "others", "[I", true)
  | 3 => ("LineBalls$Log", "amounts", "[I", true)
  | 4 => ("LineBalls$Log", "next", "I", false)
  | _ => ("LineBalls$Log", "size", "I", false)
def tyX5 : Nat → FieldType := fun k => match k with
  | 0 => .array .int
  | 1 => .array .int
  | 2 => .array .int
  | 3 => .array .int
  | 4 => .int
  | _ => .int
theorem nmX5 : ∀ a, a < 6 → ∀ b, b < 6 → a ≠ b → (TX5 a).2.1 ≠ (TX5 b).2.1 := by decide +kernel
theorem tyX5_ok : ∀ k, k < 6 → parseFieldDescriptor (TX5 k).2.2.1 = some (tyX5 k) := by decide +kernel
def RX6 : String := "LineBalls$Output"
def TX6 : u_T := fun k => match k with
  | 0 => ("LineBalls$Output", "bytes", "[B", true)
  | _ => ("LineBalls$Output", "length", "I", false)
def tyX6 : Nat → FieldType := fun k => match k with
  | 0 => .array .byte
  | _ => .int
theorem nmX6 : ∀ a, a < 2 → ∀ b, b < 2 → a ≠ b → (TX6 a).2.1 ≠ (TX6 b).2.1 := by decide +kernel
theorem tyX6_ok : ∀ k, k < 2 → parseFieldDescriptor (TX6 k).2.2.1 = some (tyX6 k) := by decide +kernel
def RX7 : String := "LineBalls$Parser"
def TX7 : u_T := fun k => match k with
  | 0 => ("LineBalls$Parser", "text", "[B", true)
  | 1 => ("LineBalls$Parser", "line", "LLineBalls$Line;", true)
  | 2 => ("LineBalls$Parser", "length", "I", false)
  | 3 => ("LineBalls$Parser", "kind", "I", false)
  | 4 => ("LineBalls$Parser", "start", "I", false)
  | 5 => ("LineBalls$Parser", "end", "I", false)
  | _ => ("LineBalls$Parser", "error", "I", false)
def tyX7 : Nat → FieldType := fun k => match k with
  | 0 => .array .byte
  | 1 => .object "LineBalls$Line"
  | 2 => .int
  | 3 => .int
  | 4 => .int
  | 5 => .int
  | _ => .int
theorem nmX7 : ∀ a, a < 7 → ∀ b, b < 7 → a ≠ b → (TX7 a).2.1 ≠ (TX7 b).2.1 := by decide +kernel
theorem tyX7_ok : ∀ k, k < 7 → parseFieldDescriptor (TX7 k).2.2.1 = some (tyX7 k) := by decide +kernel
def RX8 : String := "LineBalls"
def TX8 : u_T := fun k => match k with
  | 0 => ("LineBalls", "input", "[B", true)
  | 1 => ("LineBalls", "inputLength", "I", false)
  | 2 => ("LineBalls", "output", "LLineBalls$Output;", true)
  | 3 => ("LineBalls", "errorCode", "I", false)
  | 4 => ("LineBalls", "errorPosition", "I", false)
  | 5 => ("LineBalls", "now", "LLineBalls$Line;", true)
  | 6 => ("LineBalls", "trial", "LLineBalls$Line;", true)
  | 7 => ("LineBalls", "parser", "LLineBalls$Parser;", true)
  | 8 => ("LineBalls", "history", "LLineBalls$History;", true)
  | 9 => ("LineBalls", "slots", "[LLineBalls$Line;", true)
  | _ => ("LineBalls", "kept", "[Z", true)
def tyX8 : Nat → FieldType := fun k => match k with
  | 0 => .array .byte
  | 1 => .int
  | 2 => .object "LineBalls$Output"
  | 3 => .int
  | 4 => .int
  | 5 => .object "LineBalls$Line"
  | 6 => .object "LineBalls$Line"
  | 7 => .object "LineBalls$Parser"
  | 8 => .object "LineBalls$History"
  | 9 => .array (.object "LineBalls$Line")
  | _ => .array .boolean
theorem nmX8 : ∀ a, a < 11 → ∀ b, b < 11 → a ≠ b → (TX8 a).2.1 ≠ (TX8 b).2.1 := by decide +kernel
theorem tyX8_ok : ∀ k, k < 11 → parseFieldDescriptor (TX8 k).2.2.1 = some (tyX8 k) := by decide +kernel
def RX9 : String := "LineBallsModel"
def TX9 : u_T := fun k => match k with
  | 0 => ("LineBallsModel", "thrown", "I", false)
  | 1 => ("LineBallsModel", "net", "[J", true)
  | 2 => ("LineBallsModel", "draft", "[J", true)
  | 3 => ("LineBallsModel", "row", "[J", false)
  | 4 => ("LineBallsModel", "partOfLeft", "I", false)
  | 5 => ("LineBallsModel", "partOfRight", "I", false)
  | 6 => ("LineBallsModel", "struck", "I", false)
  | 7 => ("LineBallsModel", "firstTurn", "I", false)
  | 8 => ("LineBallsModel", "firstOther", "I", false)
  | 9 => ("LineBallsModel", "dueLeft", "I", false)
  | 10 => ("LineBallsModel", "dueRight", "I", false)
  | 11 => ("LineBallsModel", "aside", "[J", true)
  | 12 => ("LineBallsModel", "input", "[B", true)
  | 13 => ("LineBallsModel", "inputSize", "I", false)
  | 14 => ("LineBallsModel", "textSize", "I", false)
  | 15 => ("LineBallsModel", "next", "I", false)
  | 16 => ("LineBallsModel", "start", "I", false)
  | 17 => ("LineBallsModel", "token", "I", false)
  | 18 => ("LineBallsModel", "value", "I", false)
  | 19 => ("LineBallsModel", "errorFound", "I", false)
  | 20 => ("LineBallsModel", "errorPlace", "I", false)
  | 21 => ("LineBallsModel", "keeps", "[J", true)
  | 22 => ("LineBallsModel", "isFull", "[Z", true)
  | 23 => ("LineBallsModel", "past", "[J", true)
  | 24 => ("LineBallsModel", "remembered", "I", false)
  | 25 => ("LineBallsModel", "output", "[B", true)
  | _ => ("LineBallsModel", "outputSize", "I", false)
def tyX9 : Nat → FieldType := fun k => match k with
  | 0 => .int
  | 1 => .array .long
  | 2 => .array .long
  | 3 => .array .long
  | 4 => .int
  | 5 => .int
  | 6 => .int
  | 7 => .int
  | 8 => .int
  | 9 => .int
  | 10 => .int
  | 11 => .array .long
  | 12 => .array .byte
  | 13 => .int
  | 14 => .int
  | 15 => .int
  | 16 => .int
  | 17 => .int
  | 18 => .int
  | 19 => .int
  | 20 => .int
  | 21 => .array .long
  | 22 => .array .boolean
  | 23 => .array .long
  | 24 => .int
  | 25 => .array .byte
  | _ => .int
theorem nmX9 : ∀ a, a < 27 → ∀ b, b < 27 → a ≠ b → (TX9 a).2.1 ≠ (TX9 b).2.1 := by decide +kernel
theorem tyX9_ok : ∀ k, k < 27 → parseFieldDescriptor (TX9 k).2.2.1 = some (tyX9 k) := by decide +kernel
abbrev vwCl : List vw_C := [(RX0, TX0, 11), (RX1, TX1, 3), (RX2, TX2, 8), (RX3, TX3, 3), (RX4, TX4, 11), (RX5, TX5, 6), (RX6, TX6, 2), (RX7, TX7, 7), (RX8, TX8, 11), (RX9, TX9, 27)]
def zTY (ci : Nat) : Nat → FieldType := match ci with
  | 0 => tyX0
  | 1 => tyX1
  | 2 => tyX2
  | 3 => tyX3
  | 4 => tyX4
  | 5 => tyX5
  | 6 => tyX6
  | 7 => tyX7
  | 8 => tyX8
  | _ => tyX9
def zT (ci : Nat) : u_T := match ci with
  | 0 => TX0
  | 1 => TX1
  | 2 => TX2
  | 3 => TX3
  | 4 => TX4
  | 5 => TX5
  | 6 => TX6
  | 7 => TX7
  | 8 => TX8
  | _ => TX9
def zN (ci : Nat) : Nat := match ci with
  | 0 => 11
  | 1 => 3
  | 2 => 8
  | 3 => 3
  | 4 => 11
  | 5 => 6
  | 6 => 2
  | 7 => 7
  | 8 => 11
  | _ => 27
def zC (ci : Nat) : String := match ci with
  | 0 => "LineBalls$Ball"
  | 1 => "LineBalls$Barrier"
  | 2 => "LineBalls$Book"
  | 3 => "LineBalls$History"
  | 4 => "LineBalls$Line"
  | 5 => "LineBalls$Log"
  | 6 => "LineBalls$Output"
  | 7 => "LineBalls$Parser"
  | 8 => "LineBalls"
  | 9 => "LineBallsModel"
  | 10 => "LineBallsLaw"
  | 11 => "java/lang/String"
  | 12 => "java/lang/StringLatin1"
  | _ => "jdk/internal/util/Preconditions"
def tbl (a : Nat) : List Cond := match a with
  | 0 => k2_sels lw_privs
  | 1 => tables_1_1
  | 2 => tables_1_2
  | 3 => tables_1_3
  | 4 => tables_1_4
  | 5 => tables_1_5
  | 6 => tables_1_6
  | 7 => tables_1_7
  | _ => tables_1_8
theorem tbl_in (a : Nat) : ∀ w ∈ tbl a, w ∈ lw_tbl := by
  intro w h
  have h1 : ∀ w ∈ tables_1, w ∈ lw_tbl := fun w h => List.mem_append_right _ h
  match a, h with
  | 0, h => exact List.mem_append_left _ h
  | 1, h => exact h1 _ (List.mem_append_left _ h)
  | 2, h => exact h1 _ (List.mem_append_right _ (List.mem_append_left _ h))
  | 3, h => exact h1 _ (List.mem_append_right _ (List.mem_append_right _ (List.mem_append_left _ h)))
  | 4, h => exact h1 _ (List.mem_append_right _ (List.mem_append_right _ (List.mem_append_right _ (List.mem_append_left _ h))))
  | 5, h => exact h1 _ (List.mem_append_right _ (List.mem_append_right _ (List.mem_append_right _ (List.mem_append_right _ (List.mem_append_left _ h)))))
  | 6, h => exact h1 _ (List.mem_append_right _ (List.mem_append_right _ (List.mem_append_right _ (List.mem_append_right _ (List.mem_append_right _ (List.mem_append_left _ h))))))
  | 7, h => exact h1 _ (List.mem_append_right _ (List.mem_append_right _ (List.mem_append_right _ (List.mem_append_right _ (List.mem_append_right _ (List.mem_append_right _ (List.mem_append_left _ h)))))))
  | n + 8, h => exact h1 _ (List.mem_append_right _ (List.mem_append_right _ (List.mem_append_right _ (List.mem_append_right _ (List.mem_append_right _ (List.mem_append_right _ (List.mem_append_right _ h)))))))
def tbw (q : Nat × Nat) : Option Cond := (tbl q.1)[q.2]?
theorem tbw_in {q : Nat × Nat} {w : Cond} (h : tbw q = some w) : w ∈ lw_tbl := tbl_in _ _ (List.mem_of_getElem? h)
/-- the words that last -/
def ALLW : List Cond := lw_tbl.filter goodWord
theorem ALLW_lw : ∀ w ∈ ALLW, w ∈ lw_tbl := fun _ h => (List.mem_filter.mp h).1
theorem ALLW_good : ∀ w ∈ ALLW, goodWord w = true := fun _ h => (List.mem_filter.mp h).2
theorem ALLW_in {w : Cond} (h : w ∈ lw_tbl) (hg : goodWord w = true) : w ∈ ALLW := List.mem_filter.mpr ⟨h, hg⟩
/-- each word of a list stands at its place, and lasts -/
def chkW (ws : List Cond) (ps : List (Nat × Nat)) : Bool := match ws, ps with
  | [], _ => true
  | _ :: _, [] => false
  | w :: ws, p :: ps => decide (tbw p = some w) && goodWord w && chkW ws ps
theorem chkW_ok : ∀ (ws : List Cond) (ps : List (Nat × Nat)), chkW ws ps = true → ∀ w ∈ ws, w ∈ ALLW
  | [], _, _ => fun _ h => by cases h
  | _ :: _, [], h => by simp [chkW] at h
  | w :: ws, p :: ps, h => by
    simp only [chkW, Bool.and_eq_true, decide_eq_true_eq] at h
    intro x hx
    rcases List.mem_cons.mp hx with rfl | hx
    · exact ALLW_in (tbw_in h.1.1) h.1.2
    · exact chkW_ok ws ps h.2 x hx

theorem inX0 : ∀ w ∈ u_ws RX0 TX0 11, w ∈ ALLW := chkW_ok _ [(1, 185), (1, 187), (1, 189), (1, 191), (1, 193), (1, 195), (1, 197), (1, 199), (1, 201), (1, 203), (1, 205)] (by decide +kernel)
theorem inX1 : ∀ w ∈ u_ws RX1 TX1 3, w ∈ ALLW := chkW_ok _ [(1, 72), (1, 74), (1, 76)] (by decide +kernel)
theorem inX2 : ∀ w ∈ u_ws RX2 TX2 8, w ∈ ALLW := chkW_ok _ [(1, 134), (1, 136), (1, 138), (1, 140), (1, 142), (1, 144), (1, 146), (1, 148)] (by decide +kernel)
theorem inX3 : ∀ w ∈ u_ws RX3 TX3 3, w ∈ ALLW := chkW_ok _ [(2, 73), (2, 75), (2, 77)] (by decide +kernel)
theorem inX4 : ∀ w ∈ u_ws RX4 TX4 11, w ∈ ALLW := chkW_ok _ [(2, 9), (2, 11), (2, 13), (2, 15), (2, 17), (2, 19), (2, 21), (2, 23), (2, 25), (2, 27), (2, 29)] (by decide +kernel)
theorem inX5 : ∀ w ∈ u_ws RX5 TX5 6, w ∈ ALLW := chkW_ok _ [(1, 93), (1, 95), (1, 97), (1, 99), (1, 101), (1, 103)] (by decide +kernel)
theorem inX6 : ∀ w ∈ u_ws RX6 TX6 2, w ∈ ALLW := chkW_ok _ [(1, 42), (1, 44)] (by decide +kernel)
theorem inX7 : ∀ w ∈ u_ws RX7 TX7 7, w ∈ ALLW := chkW_ok _ [(2, 45), (2, 47), (2, 49), (2, 51), (2, 53), (2, 55), (2, 57)] (by decide +kernel)
theorem inX8 : ∀ w ∈ u_ws RX8 TX8 11, w ∈ ALLW := chkW_ok _ [(2, 91), (2, 93), (2, 95), (2, 97), (2, 99), (2, 101), (2, 103), (2, 105), (2, 107), (2, 109), (2, 111)] (by decide +kernel)
theorem inX9 : ∀ w ∈ u_ws RX9 TX9 27, w ∈ ALLW := chkW_ok _ [(6, 43), (6, 45), (6, 47), (6, 49), (6, 51), (6, 53), (6, 55), (6, 57), (6, 59), (6, 61), (6, 63), (6, 65), (6, 67), (6, 69), (6, 71), (6, 73), (6, 75), (6, 77), (6, 79), (6, 81), (6, 83), (6, 85), (6, 87), (6, 89), (6, 91), (6, 93), (6, 95)] (by decide +kernel)
/-- a method: name, code, locals, what it returns, its class, kind (0 static, 1 virtual, 2 constructor), parameters, handlers -/
abbrev zMT : Type := MethodName × ByteArray × Nat × Option FieldType × Nat × Nat × Nat × List (Nat × Nat × Nat × Nat)
def mT_0 : List zMT := [(⟨"LineBalls$Ball", "<init>", "()V"⟩, prog_2_method_1_code, 1, none, 0, 2, 0, []),
  (⟨"LineBalls$Ball", "begin", "(IIII)V"⟩, prog_2_method_2_code, 5, none, 0, 1, 4, []),
  (⟨"LineBalls$Ball", "copyFrom", "(LLineBalls$Ball;)V"⟩, prog_2_method_3_code, 2, none, 0, 1, 1, []),
  (⟨"LineBalls$Ball", "pace", "()I"⟩, prog_2_method_4_code, 1, (some FieldType.int), 0, 1, 0, []),
  (⟨"LineBalls$Ball", "save", "()Z"⟩, prog_2_method_10_code, 1, (some FieldType.boolean), 0, 1, 0, []),
  (⟨"LineBalls$Ball", "push", "()I"⟩, prog_2_method_5_code, 1, (some FieldType.int), 0, 1, 0, []),
  (⟨"LineBalls$Ball", "speedBehindBounce", "(I)I"⟩, prog_2_method_7_code, 4, (some FieldType.int), 0, 1, 1, []),
  (⟨"LineBalls$Ball", "stepAgainst", "(LLineBalls$Ball;)I"⟩, prog_2_method_8_code, 3, (some FieldType.int), 0, 1, 1, []),
  (⟨"LineBalls$Ball", "energy", "()I"⟩, prog_2_method_6_code, 1, (some FieldType.int), 0, 1, 0, []),
  (⟨"LineBalls$Ball", "pulsesUntilDue", "()I"⟩, prog_2_method_9_code, 2, (some FieldType.int), 0, 1, 0, []),
  (⟨"LineBalls$Barrier", "<init>", "()V"⟩, prog_3_method_1_code, 1, none, 1, 2, 0, []),
  (⟨"LineBalls$Barrier", "begin", "(II)V"⟩, prog_3_method_2_code, 3, none, 1, 1, 2, []),
  (⟨"LineBalls$Barrier", "copyFrom", "(LLineBalls$Barrier;)V"⟩, prog_3_method_3_code, 2, none, 1, 1, 1, []),
  (⟨"LineBalls$Book", "<init>", "()V"⟩, prog_4_method_1_code, 1, none, 2, 2, 0, []),
  (⟨"LineBalls$Book", "clear", "()V"⟩, prog_4_method_2_code, 2, none, 2, 1, 0, []),
  (⟨"LineBalls$Book", "copyFrom", "(LLineBalls$Book;)V"⟩, prog_4_method_3_code, 2, none, 2, 1, 1, []),
  (⟨"LineBalls$Book", "noteHit", "(II)V"⟩, prog_4_method_5_code, 3, none, 2, 1, 2, []),
  (⟨"LineBalls$Book", "hitsOf", "(II)I"⟩, prog_4_method_4_code, 3, (some FieldType.int), 2, 1, 2, []),
  (⟨"LineBalls$Book", "dropBall", "(I)V"⟩, prog_4_method_6_code, 4, none, 2, 1, 1, []),
  (⟨"LineBalls$Book", "pairBehind", "(II)I"⟩, prog_4_method_7_code, 3, (some FieldType.int), 2, 1, 2, []),
  (⟨"LineBalls$History", "<init>", "()V"⟩, prog_5_method_1_code, 2, none, 3, 2, 0, []),
  (⟨"LineBalls$History", "remember", "(LLineBalls$Line;)V"⟩, prog_5_method_2_code, 2, none, 3, 1, 1, []),
  (⟨"LineBalls$History", "bringBack", "(LLineBalls$Line;)V"⟩, prog_5_method_3_code, 2, none, 3, 1, 1, []),
  (⟨"LineBalls$Line", "<init>", "()V"⟩, prog_6_method_1_code, 2, none, 4, 2, 0, []),
  (⟨"LineBalls$Line", "clear", "(III)V"⟩, prog_6_method_2_code, 4, none, 4, 1, 3, []),
  (⟨"LineBalls$Line", "taken", "(I)Z"⟩, prog_6_method_7_code, 2, (some FieldType.boolean), 4, 1, 1, []),
  (⟨"LineBalls$Line", "barrierAt", "(I)LLineBalls$Barrier;"⟩, prog_6_method_6_code, 3, (some (FieldType.object "LineBalls$Barrier")), 4, 1, 1, []),
  (⟨"LineBalls$Line", "ballAt", "(I)I"⟩, prog_6_method_4_code, 3, (some FieldType.int), 4, 1, 1, []),
  (⟨"LineBalls$Line", "putPost", "(II)V"⟩, prog_6_method_14_code, 3, none, 4, 1, 2, []),
  (⟨"LineBalls$Line", "ballNamed", "(I)I"⟩, prog_6_method_5_code, 3, (some FieldType.int), 4, 1, 1, []),
  (⟨"LineBalls$Line", "putBall", "(IIII)V"⟩, prog_6_method_15_code, 5, none, 4, 1, 4, []),
  (⟨"LineBalls$Line", "sortByCell", "()V"⟩, prog_6_method_17_code, 3, none, 4, 1, 0, []),
  (⟨"LineBalls$Line", "copyFrom", "(LLineBalls$Line;)V"⟩, prog_6_method_3_code, 3, none, 4, 1, 1, []),
  (⟨"LineBalls$Line", "passPulses", "(I)I"⟩, prog_6_method_18_code, 5, (some FieldType.int), 4, 1, 1, []),
  (⟨"LineBalls$Line", "beginPulse", "()Z"⟩, prog_6_method_19_code, 3, (some FieldType.boolean), 4, 1, 0, []),
  (⟨"LineBalls$Line", "takeTurn", "(II)V"⟩, prog_6_method_20_code, 8, none, 4, 1, 2, []),
  (⟨"LineBalls$Line", "bounce", "(ILLineBalls$Barrier;)V"⟩, prog_6_method_21_code, 6, none, 4, 1, 2, []),
  (⟨"LineBalls$Line", "meet", "(III)V"⟩, prog_6_method_22_code, 8, none, 4, 1, 3, []),
  (⟨"LineBalls$Line", "tradeSize", "(LLineBalls$Ball;LLineBalls$Ball;)I"⟩, prog_6_method_23_code, 7, (some FieldType.int), 4, 0, 2, []),
  (⟨"LineBalls$Line", "movingBalls", "()I"⟩, prog_6_method_9_code, 3, (some FieldType.int), 4, 1, 0, [])]
def mP_0 : List (List (Nat × Nat)) := [[(1, 154), (1, 7), (1, 153)], [(3, 37), (1, 7), (3, 35), (3, 36)], [(3, 57), (1, 7), (3, 55), (3, 56)], [(3, 96), (1, 7), (3, 94), (3, 95)], [(3, 120), (1, 7), (3, 118), (3, 119)], [(3, 134), (1, 7), (3, 132), (3, 133)], [(3, 138), (1, 7), (3, 136), (3, 137)], [(3, 154), (1, 7), (3, 152), (3, 153)], [(5, 27), (1, 7), (5, 25), (5, 26)], [(5, 62), (1, 7), (5, 60), (5, 61)], [(1, 61), (1, 4), (1, 60)], [(1, 215), (1, 4), (1, 213), (1, 214)], [(3, 61), (1, 4), (3, 59), (3, 60)], [(1, 110), (1, 6), (1, 109)], [(1, 223), (1, 6), (1, 221), (1, 222)], [(3, 72), (1, 6), (3, 70), (3, 71)], [(3, 161), (1, 6), (3, 159), (3, 160)], [(5, 1), (1, 6), (4, 239), (5, 0)], [(5, 189), (1, 6), (5, 187), (5, 188)], [(5, 193), (1, 6), (5, 192), (0, 29)], [(2, 64), (1, 9), (2, 63)], [(3, 49), (1, 9), (3, 47), (3, 48)], [(5, 237), (1, 9), (5, 235), (5, 236)], [(1, 52), (1, 3), (1, 51)], [(1, 211), (1, 3), (1, 209), (1, 210)], [(2, 230), (1, 3), (2, 228), (2, 229)], [(2, 234), (1, 3), (2, 232), (2, 233)], [(2, 238), (1, 3), (2, 236), (2, 237)], [(3, 2), (1, 3), (3, 0), (3, 1)], [(3, 25), (1, 3), (3, 23), (3, 24)], [(3, 33), (1, 3), (3, 31), (3, 32)], [(3, 41), (1, 3), (3, 39), (3, 40)], [(3, 53), (1, 3), (3, 51), (3, 52)], [(3, 112), (1, 3), (3, 110), (3, 111)], [(3, 116), (1, 3), (3, 115), (0, 17)], [(3, 125), (1, 3), (3, 124), (0, 18)], [(3, 129), (1, 3), (3, 128), (0, 19)], [(3, 147), (1, 3), (3, 146), (0, 20)], [(3, 150), (1, 3), (3, 149)], [(3, 197), (1, 3), (3, 195), (3, 196)]]
def mT_1 : List zMT := [(⟨"LineBalls$Line", "weights", "()I"⟩, prog_6_method_10_code, 3, (some FieldType.int), 4, 1, 0, []),
  (⟨"LineBalls$Line", "push", "()I"⟩, prog_6_method_11_code, 3, (some FieldType.int), 4, 1, 0, []),
  (⟨"LineBalls$Line", "notePushSince", "(I)V"⟩, prog_6_method_13_code, 2, none, 4, 1, 1, []),
  (⟨"LineBalls$Line", "freeCells", "(II)I"⟩, prog_6_method_8_code, 4, (some FieldType.int), 4, 1, 2, []),
  (⟨"LineBalls$Line", "energy", "()I"⟩, prog_6_method_12_code, 3, (some FieldType.int), 4, 1, 0, []),
  (⟨"LineBalls$Line", "dropBall", "(I)V"⟩, prog_6_method_16_code, 3, none, 4, 1, 1, []),
  (⟨"LineBalls$Log", "<init>", "()V"⟩, prog_7_method_1_code, 1, none, 5, 2, 0, []),
  (⟨"LineBalls$Log", "clear", "()V"⟩, prog_7_method_2_code, 1, none, 5, 1, 0, []),
  (⟨"LineBalls$Log", "copyFrom", "(LLineBalls$Log;)V"⟩, prog_7_method_3_code, 2, none, 5, 1, 1, []),
  (⟨"LineBalls$Log", "add", "(IIII)V"⟩, prog_7_method_4_code, 5, none, 5, 1, 4, []),
  (⟨"LineBalls$Log", "firstHitAt", "(I)I"⟩, prog_7_method_10_code, 3, (some FieldType.int), 5, 1, 1, []),
  (⟨"LineBalls$Log", "timeOf", "(I)I"⟩, prog_7_method_6_code, 2, (some FieldType.int), 5, 1, 1, []),
  (⟨"LineBalls$Log", "slotOf", "(I)I"⟩, prog_7_method_5_code, 2, (some FieldType.int), 5, 1, 1, []),
  (⟨"LineBalls$Log", "otherOf", "(I)I"⟩, prog_7_method_8_code, 2, (some FieldType.int), 5, 1, 1, []),
  (⟨"LineBalls$Log", "moverOf", "(I)I"⟩, prog_7_method_7_code, 2, (some FieldType.int), 5, 1, 1, []),
  (⟨"LineBalls$Log", "amountOf", "(I)I"⟩, prog_7_method_9_code, 2, (some FieldType.int), 5, 1, 1, []),
  (⟨"LineBalls$Log", "dropBall", "(I)V"⟩, prog_7_method_11_code, 3, none, 5, 1, 1, []),
  (⟨"LineBalls$Log", "renumbered", "(II)I"⟩, prog_7_method_12_code, 2, (some FieldType.int), 5, 0, 2, []),
  (⟨"LineBalls$Output", "<init>", "()V"⟩, prog_8_method_1_code, 1, none, 6, 2, 0, []),
  (⟨"LineBalls$Output", "putNumber", "(I)V"⟩, prog_8_method_4_code, 3, none, 6, 1, 1, []),
  (⟨"LineBalls$Output", "put", "(I)V"⟩, prog_8_method_2_code, 2, none, 6, 1, 1, []),
  (⟨"LineBalls$Output", "putSpaceBetween", "()V"⟩, prog_8_method_3_code, 1, none, 6, 1, 0, []),
  (⟨"LineBalls$Parser", "<init>", "([BLLineBalls$Line;)V"⟩, prog_9_method_1_code, 3, none, 7, 2, 2, []),
  (⟨"LineBalls$Parser", "parse", "(I)I"⟩, prog_9_method_2_code, 3, (some FieldType.int), 7, 1, 1, []),
  (⟨"LineBalls$Parser", "nextToken", "()V"⟩, prog_9_method_18_code, 1, none, 7, 1, 0, []),
  (⟨"LineBalls$Parser", "kindAt", "(I)I"⟩, prog_9_method_19_code, 3, (some FieldType.int), 7, 1, 1, []),
  (⟨"LineBalls$Parser", "parseBox", "()V"⟩, prog_9_method_4_code, 4, none, 7, 1, 0, []),
  (⟨"LineBalls$Parser", "takeWord", "(Ljava/lang/String;)V"⟩, prog_9_method_8_code, 2, none, 7, 1, 1, []),
  (⟨"LineBalls$Parser", "isWord", "(Ljava/lang/String;)Z"⟩, prog_9_method_16_code, 3, (some FieldType.boolean), 7, 1, 1, []),
  (⟨"LineBalls$Parser", "fail", "(I)V"⟩, prog_9_method_7_code, 2, none, 7, 1, 1, []),
  (⟨"LineBalls$Parser", "takeNumber", "(II)I"⟩, prog_9_method_10_code, 4, (some FieldType.int), 7, 1, 2, []),
  (⟨"LineBalls$Parser", "checkedNumber", "(II)I"⟩, prog_9_method_14_code, 5, (some FieldType.int), 7, 1, 2, []),
  (⟨"LineBalls$Parser", "takeSemicolon", "()V"⟩, prog_9_method_9_code, 1, none, 7, 1, 0, []),
  (⟨"LineBalls$Parser", "isSymbol", "(C)Z"⟩, prog_9_method_17_code, 2, (some FieldType.boolean), 7, 1, 1, []),
  (⟨"LineBalls$Parser", "parsePost", "()V"⟩, prog_9_method_5_code, 3, none, 7, 1, 0, []),
  (⟨"LineBalls$Parser", "takeCell", "()I"⟩, prog_9_method_11_code, 2, (some FieldType.int), 7, 1, 0, []),
  (⟨"LineBalls$Parser", "parseBall", "()V"⟩, prog_9_method_6_code, 5, none, 7, 1, 0, []),
  (⟨"LineBalls$Parser", "takeName", "()I"⟩, prog_9_method_13_code, 2, (some FieldType.int), 7, 1, 0, []),
  (⟨"LineBalls$Parser", "packName", "([BII)I"⟩, prog_9_method_20_code, 5, (some FieldType.int), 7, 0, 3, []),
  (⟨"LineBalls$Parser", "isKeyword", "()Z"⟩, prog_9_method_15_code, 1, (some FieldType.boolean), 7, 1, 0, [])]
def mP_1 : List (List (Nat × Nat)) := [[(3, 209), (1, 3), (3, 207), (3, 208)], [(3, 218), (1, 3), (3, 216), (3, 217)], [(3, 222), (1, 3), (3, 220), (3, 221)], [(4, 222), (1, 3), (4, 220), (4, 221)], [(5, 23), (1, 3), (5, 21), (5, 22)], [(5, 178), (1, 3), (5, 176), (5, 177)], [(1, 84), (1, 5), (1, 83)], [(1, 219), (1, 5), (1, 217), (1, 218)], [(3, 65), (1, 5), (3, 63), (3, 64)], [(3, 142), (1, 5), (3, 140), (3, 141)], [(3, 169), (1, 5), (3, 167), (3, 168)], [(3, 173), (1, 5), (3, 171), (3, 172)], [(3, 177), (1, 5), (3, 176), (0, 21)], [(3, 184), (1, 5), (3, 182), (3, 183)], [(3, 189), (1, 5), (3, 187), (3, 188)], [(4, 23), (1, 5), (4, 21), (4, 22)], [(5, 182), (1, 5), (5, 180), (5, 181)], [(5, 185), (1, 5), (5, 184)], [(1, 36), (1, 2), (1, 35)], [(3, 236), (1, 2), (3, 234), (3, 235)], [(4, 0), (1, 2), (3, 238), (3, 239)], [(4, 10), (1, 2), (4, 8), (4, 9)], [(2, 36), (1, 8), (2, 35)], [(2, 122), (1, 8), (2, 120), (2, 121)], [(2, 129), (1, 8), (2, 128), (0, 0)], [(2, 133), (1, 8), (2, 132), (0, 1)], [(2, 137), (1, 8), (2, 136), (0, 2)], [(2, 142), (1, 8), (2, 141), (0, 3)], [(2, 146), (1, 8), (2, 145), (0, 4)], [(2, 198), (1, 8), (2, 197), (0, 5)], [(2, 202), (1, 8), (2, 201), (0, 6)], [(2, 206), (1, 8), (2, 205), (0, 7)], [(2, 212), (1, 8), (2, 211), (0, 8)], [(2, 216), (1, 8), (2, 215), (0, 9)], [(2, 222), (1, 8), (2, 221), (0, 10)], [(2, 226), (1, 8), (2, 225), (0, 11)], [(3, 7), (1, 8), (3, 6), (0, 12)], [(3, 11), (1, 8), (3, 10), (0, 13)], [(3, 14), (1, 8), (3, 13)], [(3, 18), (1, 8), (3, 17), (0, 14)]]
def mT_2 : List zMT := [(⟨"LineBalls$Parser", "takeSpeed", "()I"⟩, prog_9_method_12_code, 3, (some FieldType.int), 7, 1, 0, []),
  (⟨"LineBalls$Parser", "position", "()I"⟩, prog_9_method_3_code, 1, (some FieldType.int), 7, 1, 0, []),
  (⟨"LineBalls", "<init>", "()V"⟩, prog_1_method_1_code, 2, none, 8, 2, 0, []),
  (⟨"LineBalls", "load", "()I"⟩, prog_1_method_5_code, 1, (some FieldType.int), 8, 1, 0, []),
  (⟨"LineBalls", "errorCode", "()I"⟩, prog_1_method_6_code, 1, (some FieldType.int), 8, 1, 0, []),
  (⟨"LineBalls", "errorPosition", "()I"⟩, prog_1_method_7_code, 1, (some FieldType.int), 8, 1, 0, []),
  (⟨"LineBalls", "find", "()I"⟩, prog_1_method_8_code, 2, (some FieldType.int), 8, 1, 0, []),
  (⟨"LineBalls", "fastest", "()I"⟩, prog_1_method_22_code, 5, (some FieldType.int), 8, 1, 0, []),
  (⟨"LineBalls", "going", "(Z)I"⟩, prog_1_method_23_code, 5, (some FieldType.int), 8, 1, 1, []),
  (⟨"LineBalls", "hitIn", "()I"⟩, prog_1_method_27_code, 1, (some FieldType.int), 8, 1, 0, []),
  (⟨"LineBalls", "tryUntilHit", "()I"⟩, prog_1_method_29_code, 2, (some FieldType.int), 8, 1, 0, []),
  (⟨"LineBalls", "nextHit", "(Z)I"⟩, prog_1_method_28_code, 3, (some FieldType.int), 8, 1, 1, []),
  (⟨"LineBalls", "calmIn", "()I"⟩, prog_1_method_37_code, 2, (some FieldType.int), 8, 1, 0, []),
  (⟨"LineBalls", "meanSpeed", "()D"⟩, prog_1_method_39_code, 3, (some FieldType.double), 8, 1, 0, []),
  (⟨"LineBalls", "middle", "()D"⟩, prog_1_method_41_code, 4, (some FieldType.double), 8, 1, 0, []),
  (⟨"LineBalls", "stop", "()I"⟩, prog_1_method_50_code, 4, (some FieldType.int), 8, 1, 0, []),
  (⟨"LineBalls", "undoCount", "()I"⟩, prog_1_method_55_code, 1, (some FieldType.int), 8, 1, 0, []),
  (⟨"LineBalls", "writeLine", "()I"⟩, prog_1_method_56_code, 3, (some FieldType.int), 8, 1, 0, []),
  (⟨"LineBalls", "writeBalls", "()I"⟩, prog_1_method_57_code, 3, (some FieldType.int), 8, 1, 0, []),
  (⟨"LineBalls", "writeLog", "()I"⟩, prog_1_method_58_code, 4, (some FieldType.int), 8, 1, 0, []),
  (⟨"LineBalls", "putLogged", "(I)V"⟩, prog_1_method_59_code, 2, none, 8, 1, 1, []),
  (⟨"LineBalls", "append", "(IIIII)I"⟩, prog_1_method_2_code, 6, (some FieldType.int), 8, 1, 5, []),
  (⟨"LineBalls", "appendBytes", "(I)V"⟩, prog_1_method_3_code, 3, none, 8, 1, 1, []),
  (⟨"LineBalls", "truncate", "(I)V"⟩, prog_1_method_4_code, 2, none, 8, 1, 1, []),
  (⟨"LineBalls", "needRange", "(III)V"⟩, prog_1_method_61_code, 3, none, 8, 0, 3, []),
  (⟨"LineBalls", "property", "(I)I"⟩, prog_1_method_9_code, 2, (some FieldType.int), 8, 1, 1, []),
  (⟨"LineBalls", "ball", "(II)I"⟩, prog_1_method_10_code, 4, (some FieldType.int), 8, 1, 2, []),
  (⟨"LineBalls", "needBall", "(I)LLineBalls$Ball;"⟩, prog_1_method_62_code, 2, (some (FieldType.object "LineBalls$Ball")), 8, 1, 1, []),
  (⟨"LineBalls", "at", "(I)I"⟩, prog_1_method_11_code, 2, (some FieldType.int), 8, 1, 1, []),
  (⟨"LineBalls", "needCell", "(I)V"⟩, prog_1_method_63_code, 2, none, 8, 1, 1, []),
  (⟨"LineBalls", "post", "(II)I"⟩, prog_1_method_12_code, 4, (some FieldType.int), 8, 1, 2, []),
  (⟨"LineBalls", "needBarrier", "(I)LLineBalls$Barrier;"⟩, prog_1_method_65_code, 2, (some (FieldType.object "LineBalls$Barrier")), 8, 1, 1, []),
  (⟨"LineBalls", "wall", "(ZI)I"⟩, prog_1_method_13_code, 4, (some FieldType.int), 8, 1, 2, []),
  (⟨"LineBalls", "placed", "(I)I"⟩, prog_1_method_14_code, 2, (some FieldType.int), 8, 1, 1, []),
  (⟨"LineBalls", "neighbour", "(IZ)I"⟩, prog_1_method_15_code, 5, (some FieldType.int), 8, 1, 2, []),
  (⟨"LineBalls", "room", "(IZ)I"⟩, prog_1_method_16_code, 4, (some FieldType.int), 8, 1, 2, []),
  (⟨"LineBalls", "hits", "(II)I"⟩, prog_1_method_17_code, 3, (some FieldType.int), 8, 1, 2, []),
  (⟨"LineBalls", "logged", "(II)I"⟩, prog_1_method_18_code, 3, (some FieldType.int), 8, 1, 2, []),
  (⟨"LineBalls", "ballOrNone", "(I)I"⟩, prog_1_method_19_code, 1, (some FieldType.int), 8, 0, 1, []),
  (⟨"LineBalls", "account", "(I)J"⟩, prog_1_method_20_code, 2, (some FieldType.long), 8, 1, 1, [])]
def mP_2 : List (List (Nat × Nat)) := [[(3, 29), (1, 8), (3, 28), (0, 15)], [(3, 45), (1, 8), (3, 43), (3, 44)], [(1, 28), (1, 1), (1, 27)], [(2, 118), (1, 1), (2, 116), (2, 117)], [(3, 78), (1, 1), (3, 76), (3, 77)], [(3, 82), (1, 1), (3, 80), (3, 81)], [(3, 86), (1, 1), (3, 84), (3, 85)], [(3, 92), (1, 1), (3, 90), (3, 91)], [(3, 100), (1, 1), (3, 98), (3, 99)], [(3, 104), (1, 1), (3, 102), (3, 103)], [(3, 108), (1, 1), (3, 107), (0, 16)], [(3, 165), (1, 1), (3, 163), (3, 164)], [(3, 193), (1, 1), (3, 191), (3, 192)], [(3, 201), (1, 1), (3, 199), (3, 200)], [(3, 205), (1, 1), (3, 203), (3, 204)], [(3, 214), (1, 1), (3, 212), (3, 213)], [(3, 227), (1, 1), (3, 225), (3, 226)], [(3, 231), (1, 1), (3, 229), (3, 230)], [(4, 6), (1, 1), (4, 4), (4, 5)], [(4, 14), (1, 1), (4, 12), (4, 13)], [(4, 19), (1, 1), (4, 18), (0, 22)], [(4, 31), (1, 1), (4, 29), (4, 30)], [(4, 99), (1, 1), (4, 98), (0, 24)], [(4, 107), (1, 1), (4, 105), (4, 106)], [(4, 110), (1, 1), (4, 109)], [(4, 132), (1, 1), (4, 130), (4, 131)], [(4, 140), (1, 1), (4, 138), (4, 139)], [(4, 144), (1, 1), (4, 143), (0, 25)], [(4, 166), (1, 1), (4, 164), (4, 165)], [(4, 170), (1, 1), (4, 169), (0, 26)], [(4, 177), (1, 1), (4, 175), (4, 176)], [(4, 181), (1, 1), (4, 180), (0, 27)], [(4, 188), (1, 1), (4, 186), (4, 187)], [(4, 196), (1, 1), (4, 194), (4, 195)], [(4, 218), (1, 1), (4, 216), (4, 217)], [(4, 230), (1, 1), (4, 228), (4, 229)], [(4, 237), (1, 1), (4, 235), (4, 236)], [(5, 8), (1, 1), (5, 6), (5, 7)], [(5, 12), (1, 1), (5, 11)], [(5, 19), (1, 1), (5, 17), (5, 18)]]
def mT_3 : List zMT := [(⟨"LineBalls", "count", "(I)I"⟩, prog_1_method_21_code, 2, (some FieldType.int), 8, 1, 1, []),
  (⟨"LineBalls", "traded", "(IIZ)I"⟩, prog_1_method_24_code, 11, (some FieldType.int), 8, 1, 3, []),
  (⟨"LineBalls", "bounced", "(II)I"⟩, prog_1_method_25_code, 4, (some FieldType.int), 8, 1, 2, []),
  (⟨"LineBalls", "dueIn", "(I)I"⟩, prog_1_method_26_code, 2, (some FieldType.int), 8, 1, 1, []),
  (⟨"LineBalls", "ballHitIn", "(I)I"⟩, prog_1_method_30_code, 4, (some FieldType.int), 8, 1, 1, []),
  (⟨"LineBalls", "cellIn", "(II)I"⟩, prog_1_method_31_code, 3, (some FieldType.int), 8, 1, 2, []),
  (⟨"LineBalls", "tryTicks", "(I)V"⟩, prog_1_method_36_code, 2, none, 8, 1, 1, []),
  (⟨"LineBalls", "speedIn", "(II)I"⟩, prog_1_method_32_code, 3, (some FieldType.int), 8, 1, 2, []),
  (⟨"LineBalls", "hitsIn", "(I)I"⟩, prog_1_method_33_code, 2, (some FieldType.int), 8, 1, 1, []),
  (⟨"LineBalls", "bouncesIn", "(I)I"⟩, prog_1_method_34_code, 2, (some FieldType.int), 8, 1, 1, []),
  (⟨"LineBalls", "energyIn", "(I)J"⟩, prog_1_method_35_code, 2, (some FieldType.long), 8, 1, 1, []),
  (⟨"LineBalls", "energyIf", "(ZII)J"⟩, prog_1_method_38_code, 5, (some FieldType.long), 8, 1, 3, []),
  (⟨"LineBalls", "share", "(I)F"⟩, prog_1_method_40_code, 4, (some FieldType.float), 8, 1, 1, []),
  (⟨"LineBalls", "pulse", "(I)I"⟩, prog_1_method_42_code, 2, (some FieldType.int), 8, 1, 1, []),
  (⟨"LineBalls", "tick", "(I)I"⟩, prog_1_method_43_code, 2, (some FieldType.int), 8, 1, 1, []),
  (⟨"LineBalls", "kick", "(II)I"⟩, prog_1_method_44_code, 5, (some FieldType.int), 8, 1, 2, []),
  (⟨"LineBalls", "setWeight", "(II)I"⟩, prog_1_method_45_code, 6, (some FieldType.int), 8, 1, 2, []),
  (⟨"LineBalls", "setSteal", "(II)I"⟩, prog_1_method_46_code, 5, (some FieldType.int), 8, 1, 2, []),
  (⟨"LineBalls", "addBall", "(III)I"⟩, prog_1_method_47_code, 5, (some FieldType.int), 8, 1, 3, []),
  (⟨"LineBalls", "removeBall", "(I)I"⟩, prog_1_method_48_code, 3, (some FieldType.int), 8, 1, 1, []),
  (⟨"LineBalls", "turn", "(I)I"⟩, prog_1_method_49_code, 4, (some FieldType.int), 8, 1, 1, []),
  (⟨"LineBalls", "place", "(II)I"⟩, prog_1_method_51_code, 5, (some FieldType.int), 8, 1, 2, []),
  (⟨"LineBalls", "keep", "(I)I"⟩, prog_1_method_52_code, 2, (some FieldType.int), 8, 1, 1, []),
  (⟨"LineBalls", "needSlot", "(I)V"⟩, prog_1_method_64_code, 1, none, 8, 0, 1, []),
  (⟨"LineBalls", "restore", "(I)I"⟩, prog_1_method_53_code, 2, (some FieldType.int), 8, 1, 1, []),
  (⟨"LineBalls", "undo", "()I"⟩, prog_1_method_54_code, 1, (some FieldType.int), 8, 1, 0, []),
  (⟨"LineBalls", "outputByte", "(I)I"⟩, prog_1_method_60_code, 2, (some FieldType.int), 8, 1, 1, []),
  (⟨"LineBallsModel", "thrown", "()I"⟩, prog_11_method_1_code, 1, (some FieldType.int), 9, 1, 0, []),
  (⟨"LineBallsModel", "<init>", "()V"⟩, prog_11_method_7_code, 1, none, 9, 2, 0, []),
  (⟨"LineBallsModel", "append", "(IIIII)I"⟩, prog_11_method_47_code, 6, (some FieldType.int), 9, 1, 5, []),
  (⟨"LineBallsModel", "passes", "(Z)Z"⟩, prog_11_method_6_code, 2, (some FieldType.boolean), 9, 1, 1, []),
  (⟨"LineBallsModel", "passes3", "(ZZZ)Z"⟩, prog_11_method_4_code, 4, (some FieldType.boolean), 9, 1, 3, []),
  (⟨"LineBallsModel", "appendFour", "(I)V"⟩, prog_11_method_46_code, 3, none, 9, 1, 1, []),
  (⟨"LineBallsModel", "truncate", "(I)V"⟩, prog_11_method_48_code, 2, none, 9, 1, 1, []),
  (⟨"LineBallsModel", "in", "(JJJ)Z"⟩, prog_11_method_2_code, 6, (some FieldType.boolean), 9, 0, 3, []),
  (⟨"LineBallsModel", "load", "()I"⟩, prog_11_method_71_code, 2, (some FieldType.int), 9, 1, 0, []),
  (⟨"LineBallsModel", "scan", "()V"⟩, prog_11_method_52_code, 2, none, 9, 1, 0, []),
  (⟨"LineBallsModel", "byteAt", "(I)I"⟩, prog_11_method_51_code, 2, (some FieldType.int), 9, 1, 1, []),
  (⟨"LineBallsModel", "parseBox", "()V"⟩, prog_11_method_64_code, 1, none, 9, 1, 0, []),
  (⟨"LineBallsModel", "takeWord", "(Ljava/lang/String;)V"⟩, prog_11_method_57_code, 2, none, 9, 1, 1, [])]
def mP_3 : List (List (Nat × Nat)) := [[(5, 34), (1, 1), (5, 32), (5, 33)], [(5, 41), (1, 1), (5, 39), (5, 40)], [(5, 50), (1, 1), (5, 48), (5, 49)], [(5, 58), (1, 1), (5, 56), (5, 57)], [(5, 69), (1, 1), (5, 67), (5, 68)], [(5, 76), (1, 1), (5, 74), (5, 75)], [(5, 80), (1, 1), (5, 79), (0, 28)], [(5, 87), (1, 1), (5, 85), (5, 86)], [(5, 94), (1, 1), (5, 92), (5, 93)], [(5, 101), (1, 1), (5, 99), (5, 100)], [(5, 108), (1, 1), (5, 106), (5, 107)], [(5, 115), (1, 1), (5, 113), (5, 114)], [(5, 122), (1, 1), (5, 120), (5, 121)], [(5, 130), (1, 1), (5, 128), (5, 129)], [(5, 137), (1, 1), (5, 135), (5, 136)], [(5, 144), (1, 1), (5, 142), (5, 143)], [(5, 152), (1, 1), (5, 150), (5, 151)], [(5, 159), (1, 1), (5, 157), (5, 158)], [(5, 166), (1, 1), (5, 164), (5, 165)], [(5, 174), (1, 1), (5, 172), (5, 173)], [(5, 201), (1, 1), (5, 199), (5, 200)], [(5, 208), (1, 1), (5, 206), (5, 207)], [(5, 216), (1, 1), (5, 214), (5, 215)], [(5, 219), (1, 1), (5, 218)], [(5, 226), (1, 1), (5, 224), (5, 225)], [(5, 233), (1, 1), (5, 231), (5, 232)], [(6, 4), (1, 1), (6, 2), (6, 3)], [(6, 8), (1, 10), (6, 6), (6, 7)], [(6, 13), (1, 10), (6, 12)], [(6, 102), (1, 10), (6, 100), (6, 101)], [(6, 106), (1, 10), (6, 105), (0, 30)], [(6, 110), (1, 10), (6, 109), (0, 31)], [(6, 114), (1, 10), (6, 113), (0, 32)], [(6, 118), (1, 10), (6, 116), (6, 117)], [(6, 121), (1, 10), (6, 120)], [(6, 125), (1, 10), (6, 123), (6, 124)], [(6, 129), (1, 10), (6, 128), (0, 33)], [(6, 133), (1, 10), (6, 132), (0, 34)], [(6, 142), (1, 10), (6, 141), (0, 35)], [(6, 147), (1, 10), (6, 146), (0, 36)]]
def mT_4 : List zMT := [(⟨"LineBallsModel", "isWord", "(Ljava/lang/String;)Z"⟩, prog_11_method_54_code, 4, (some FieldType.boolean), 9, 1, 1, []),
  (⟨"LineBallsModel", "good", "()Z"⟩, prog_11_method_49_code, 1, (some FieldType.boolean), 9, 1, 0, []),
  (⟨"LineBallsModel", "errs", "(I)V"⟩, prog_11_method_50_code, 2, none, 9, 1, 1, []),
  (⟨"LineBallsModel", "goOn", "()V"⟩, prog_11_method_53_code, 1, none, 9, 1, 0, []),
  (⟨"LineBallsModel", "number", "(II)I"⟩, prog_11_method_56_code, 4, (some FieldType.int), 9, 1, 2, []),
  (⟨"LineBallsModel", "numberHere", "(II)I"⟩, prog_11_method_55_code, 3, (some FieldType.int), 9, 1, 2, []),
  (⟨"LineBallsModel", "semicolon", "()V"⟩, prog_11_method_58_code, 1, none, 9, 1, 0, []),
  (⟨"LineBallsModel", "parseStatement", "()V"⟩, prog_11_method_70_code, 1, none, 9, 1, 0, []),
  (⟨"LineBallsModel", "parsePost", "()V"⟩, prog_11_method_66_code, 4, none, 9, 1, 0, []),
  (⟨"LineBallsModel", "posts", "()I"⟩, prog_11_method_10_code, 1, (some FieldType.int), 9, 1, 0, []),
  (⟨"LineBallsModel", "errsIf", "(ZI)V"⟩, prog_11_method_62_code, 3, none, 9, 1, 2, []),
  (⟨"LineBallsModel", "takeCell", "()I"⟩, prog_11_method_65_code, 2, (some FieldType.int), 9, 1, 0, []),
  (⟨"LineBallsModel", "cells", "()I"⟩, prog_11_method_8_code, 1, (some FieldType.int), 9, 1, 0, []),
  (⟨"LineBallsModel", "isFree", "(I)Z"⟩, prog_11_method_20_code, 2, (some FieldType.boolean), 9, 1, 1, []),
  (⟨"LineBallsModel", "isCell", "(I)Z"⟩, prog_11_method_17_code, 2, (some FieldType.boolean), 9, 1, 1, []),
  (⟨"LineBallsModel", "ballAt", "(I)I"⟩, prog_11_method_18_code, 3, (some FieldType.int), 9, 1, 1, []),
  (⟨"LineBallsModel", "balls", "()I"⟩, prog_11_method_9_code, 1, (some FieldType.int), 9, 1, 0, []),
  (⟨"LineBallsModel", "of", "(II)I"⟩, prog_11_method_12_code, 3, (some FieldType.int), 9, 1, 2, []),
  (⟨"LineBallsModel", "postAt", "(I)I"⟩, prog_11_method_19_code, 3, (some FieldType.int), 9, 1, 1, []),
  (⟨"LineBallsModel", "ofPost", "(II)I"⟩, prog_11_method_15_code, 3, (some FieldType.int), 9, 1, 2, []),
  (⟨"LineBallsModel", "numberAfter", "(Ljava/lang/String;II)I"⟩, prog_11_method_63_code, 4, (some FieldType.int), 9, 1, 3, []),
  (⟨"LineBallsModel", "parseBall", "()V"⟩, prog_11_method_69_code, 6, none, 9, 1, 0, []),
  (⟨"LineBallsModel", "isKeyword", "()Z"⟩, prog_11_method_59_code, 2, (some FieldType.boolean), 9, 1, 0, []),
  (⟨"LineBallsModel", "nameOf", "([BII)I"⟩, prog_11_method_60_code, 5, (some FieldType.int), 9, 0, 3, []),
  (⟨"LineBallsModel", "ballNamed", "(I)I"⟩, prog_11_method_61_code, 3, (some FieldType.int), 9, 1, 1, []),
  (⟨"LineBallsModel", "takeSpeed", "()I"⟩, prog_11_method_67_code, 3, (some FieldType.int), 9, 1, 0, []),
  (⟨"LineBallsModel", "addOne", "(IIII)I"⟩, prog_11_method_68_code, 7, (some FieldType.int), 9, 1, 4, []),
  (⟨"LineBallsModel", "put", "(IIJ)V"⟩, prog_11_method_13_code, 5, none, 9, 1, 3, []),
  (⟨"LineBallsModel", "remember", "()V"⟩, prog_11_method_132_code, 2, none, 9, 1, 0, []),
  (⟨"LineBallsModel", "errorCode", "()I"⟩, prog_11_method_72_code, 1, (some FieldType.int), 9, 1, 0, []),
  (⟨"LineBallsModel", "errorPosition", "()I"⟩, prog_11_method_73_code, 1, (some FieldType.int), 9, 1, 0, []),
  (⟨"LineBallsModel", "find", "()I"⟩, prog_11_method_74_code, 3, (some FieldType.int), 9, 1, 0, []),
  (⟨"LineBallsModel", "property", "(I)I"⟩, prog_11_method_77_code, 2, (some FieldType.int), 9, 1, 1, []),
  (⟨"LineBallsModel", "stills", "()I"⟩, prog_11_method_75_code, 3, (some FieldType.int), 9, 1, 0, []),
  (⟨"LineBallsModel", "speedOf", "(I)I"⟩, prog_11_method_22_code, 2, (some FieldType.int), 9, 1, 1, []),
  (⟨"LineBallsModel", "weights", "()I"⟩, prog_11_method_76_code, 3, (some FieldType.int), 9, 1, 0, []),
  (⟨"LineBallsModel", "ball", "(II)I"⟩, prog_11_method_78_code, 3, (some FieldType.int), 9, 1, 2, []),
  (⟨"LineBallsModel", "isBall", "(I)Z"⟩, prog_11_method_16_code, 2, (some FieldType.boolean), 9, 1, 1, []),
  (⟨"LineBallsModel", "passes2", "(ZZ)Z"⟩, prog_11_method_5_code, 3, (some FieldType.boolean), 9, 1, 2, []),
  (⟨"LineBallsModel", "at", "(I)I"⟩, prog_11_method_79_code, 2, (some FieldType.int), 9, 1, 1, [])]
def mP_4 : List (List (Nat × Nat)) := [[(6, 151), (1, 10), (6, 150), (0, 37)], [(6, 155), (1, 10), (6, 154), (0, 38)], [(6, 161), (1, 10), (6, 160), (0, 39)], [(6, 165), (1, 10), (6, 164), (0, 40)], [(6, 169), (1, 10), (6, 168), (0, 41)], [(6, 173), (1, 10), (6, 172), (0, 42)], [(6, 178), (1, 10), (6, 177), (0, 43)], [(6, 182), (1, 10), (6, 181), (0, 44)], [(6, 187), (1, 10), (6, 186), (0, 45)], [(6, 191), (1, 10), (6, 190), (0, 46)], [(6, 195), (1, 10), (6, 194), (0, 47)], [(6, 199), (1, 10), (6, 198), (0, 48)], [(6, 203), (1, 10), (6, 202), (0, 49)], [(6, 207), (1, 10), (6, 206), (0, 50)], [(6, 211), (1, 10), (6, 210), (0, 51)], [(6, 215), (1, 10), (6, 214), (0, 52)], [(6, 219), (1, 10), (6, 218), (0, 53)], [(6, 223), (1, 10), (6, 222), (0, 54)], [(6, 227), (1, 10), (6, 226), (0, 55)], [(6, 231), (1, 10), (6, 230), (0, 56)], [(6, 235), (1, 10), (6, 234), (0, 57)], [(7, 0), (1, 10), (6, 239), (0, 58)], [(7, 4), (1, 10), (7, 3), (0, 59)], [(7, 10), (1, 10), (7, 9)], [(7, 14), (1, 10), (7, 13), (0, 60)], [(7, 18), (1, 10), (7, 17), (0, 61)], [(7, 22), (1, 10), (7, 21), (0, 62)], [(7, 26), (1, 10), (7, 25), (0, 63)], [(7, 30), (1, 10), (7, 29), (0, 64)], [(7, 34), (1, 10), (7, 32), (7, 33)], [(7, 38), (1, 10), (7, 36), (7, 37)], [(7, 42), (1, 10), (7, 40), (7, 41)], [(7, 47), (1, 10), (7, 45), (7, 46)], [(7, 51), (1, 10), (7, 50), (0, 65)], [(7, 55), (1, 10), (7, 54), (0, 66)], [(7, 59), (1, 10), (7, 58), (0, 67)], [(7, 63), (1, 10), (7, 61), (7, 62)], [(7, 67), (1, 10), (7, 66), (0, 68)], [(7, 72), (1, 10), (7, 71), (0, 69)], [(7, 76), (1, 10), (7, 74), (7, 75)]]
def mT_5 : List zMT := [(⟨"LineBallsModel", "post", "(II)I"⟩, prog_11_method_80_code, 3, (some FieldType.int), 9, 1, 2, []),
  (⟨"LineBallsModel", "wall", "(ZI)I"⟩, prog_11_method_81_code, 3, (some FieldType.int), 9, 1, 2, []),
  (⟨"LineBallsModel", "placed", "(I)I"⟩, prog_11_method_83_code, 2, (some FieldType.int), 9, 1, 1, []),
  (⟨"LineBallsModel", "placedAt", "(I)I"⟩, prog_11_method_82_code, 5, (some FieldType.int), 9, 1, 1, []),
  (⟨"LineBallsModel", "firstOf", "(IZ)I"⟩, prog_11_method_38_code, 5, (some FieldType.int), 9, 1, 2, []),
  (⟨"LineBallsModel", "has", "(II)Z"⟩, prog_11_method_3_code, 2, (some FieldType.boolean), 9, 0, 2, []),
  (⟨"LineBallsModel", "neighbour", "(IZ)I"⟩, prog_11_method_85_code, 4, (some FieldType.int), 9, 1, 2, []),
  (⟨"LineBallsModel", "sideOf", "(Z)I"⟩, prog_11_method_21_code, 1, (some FieldType.int), 9, 0, 1, []),
  (⟨"LineBallsModel", "roomOf", "(IZ)I"⟩, prog_11_method_84_code, 5, (some FieldType.int), 9, 1, 2, []),
  (⟨"LineBallsModel", "room", "(IZ)I"⟩, prog_11_method_86_code, 3, (some FieldType.int), 9, 1, 2, []),
  (⟨"LineBallsModel", "hits", "(II)I"⟩, prog_11_method_87_code, 3, (some FieldType.int), 9, 1, 2, []),
  (⟨"LineBallsModel", "logged", "(II)I"⟩, prog_11_method_90_code, 4, (some FieldType.int), 9, 1, 2, []),
  (⟨"LineBallsModel", "logMany", "()I"⟩, prog_11_method_89_code, 1, (some FieldType.int), 9, 1, 0, []),
  (⟨"LineBallsModel", "ofLog", "(II)I"⟩, prog_11_method_88_code, 3, (some FieldType.int), 9, 1, 2, []),
  (⟨"LineBallsModel", "account", "(I)J"⟩, prog_11_method_91_code, 2, (some FieldType.long), 9, 1, 1, []),
  (⟨"LineBallsModel", "pushNow", "()J"⟩, prog_11_method_24_code, 4, (some FieldType.long), 9, 1, 0, []),
  (⟨"LineBallsModel", "energyNow", "()J"⟩, prog_11_method_26_code, 4, (some FieldType.long), 9, 1, 0, []),
  (⟨"LineBallsModel", "energyOf", "(I)I"⟩, prog_11_method_25_code, 2, (some FieldType.int), 9, 1, 1, []),
  (⟨"LineBallsModel", "count", "(I)I"⟩, prog_11_method_92_code, 2, (some FieldType.int), 9, 1, 1, []),
  (⟨"LineBallsModel", "fastest", "()I"⟩, prog_11_method_93_code, 3, (some FieldType.int), 9, 1, 0, []),
  (⟨"LineBallsModel", "fast", "(I)I"⟩, prog_11_method_23_code, 2, (some FieldType.int), 9, 1, 1, []),
  (⟨"LineBallsModel", "going", "(Z)I"⟩, prog_11_method_94_code, 4, (some FieldType.int), 9, 1, 1, []),
  (⟨"LineBallsModel", "traded", "(IIZ)I"⟩, prog_11_method_95_code, 8, (some FieldType.int), 9, 1, 3, []),
  (⟨"LineBallsModel", "trades", "(II)I"⟩, prog_11_method_33_code, 5, (some FieldType.int), 9, 1, 2, []),
  (⟨"LineBallsModel", "common", "(II)I"⟩, prog_11_method_32_code, 2, (some FieldType.int), 9, 0, 2, []),
  (⟨"LineBallsModel", "bounced", "(II)I"⟩, prog_11_method_97_code, 3, (some FieldType.int), 9, 1, 2, []),
  (⟨"LineBallsModel", "areSteals", "(I)Z"⟩, prog_11_method_96_code, 1, (some FieldType.boolean), 9, 0, 1, []),
  (⟨"LineBallsModel", "bouncedSpeed", "(II)I"⟩, prog_11_method_29_code, 3, (some FieldType.int), 9, 0, 2, []),
  (⟨"LineBallsModel", "stolen", "(II)I"⟩, prog_11_method_28_code, 2, (some FieldType.int), 9, 0, 2, []),
  (⟨"LineBallsModel", "dueIn", "(I)I"⟩, prog_11_method_98_code, 2, (some FieldType.int), 9, 1, 1, []),
  (⟨"LineBallsModel", "hitIn", "()I"⟩, prog_11_method_99_code, 1, (some FieldType.int), 9, 1, 0, []),
  (⟨"LineBallsModel", "nextHitOf", "(I)I"⟩, prog_11_method_45_code, 3, (some FieldType.int), 9, 1, 1, []),
  (⟨"LineBallsModel", "keepAside", "()V"⟩, prog_11_method_42_code, 2, none, 9, 1, 0, []),
  (⟨"LineBallsModel", "pulseOnce", "()V"⟩, prog_11_method_40_code, 1, none, 9, 1, 0, []),
  (⟨"LineBallsModel", "save", "()V"⟩, prog_11_method_37_code, 4, none, 9, 1, 0, []),
  (⟨"LineBallsModel", "takeTurns", "(IZ)V"⟩, prog_11_method_39_code, 5, none, 9, 1, 2, []),
  (⟨"LineBallsModel", "takeTurn", "(IZ)V"⟩, prog_11_method_36_code, 4, none, 9, 1, 2, []),
  (⟨"LineBallsModel", "add", "(II)V"⟩, prog_11_method_14_code, 3, none, 9, 1, 2, []),
  (⟨"LineBallsModel", "tells", "(I)V"⟩, prog_11_method_11_code, 2, none, 9, 1, 1, []),
  (⟨"LineBallsModel", "hit", "(IIZ)V"⟩, prog_11_method_35_code, 7, none, 9, 1, 3, [])]
def mP_5 : List (List (Nat × Nat)) := [[(7, 80), (1, 10), (7, 78), (7, 79)], [(7, 85), (1, 10), (7, 83), (7, 84)], [(7, 89), (1, 10), (7, 87), (7, 88)], [(7, 93), (1, 10), (7, 92), (0, 70)], [(7, 97), (1, 10), (7, 96), (0, 71)], [(7, 100), (1, 10), (7, 99)], [(7, 104), (1, 10), (7, 102), (7, 103)], [(7, 107), (1, 10), (7, 106)], [(7, 111), (1, 10), (7, 110), (0, 72)], [(7, 115), (1, 10), (7, 113), (7, 114)], [(7, 119), (1, 10), (7, 117), (7, 118)], [(7, 123), (1, 10), (7, 121), (7, 122)], [(7, 127), (1, 10), (7, 126), (0, 73)], [(7, 132), (1, 10), (7, 131), (0, 74)], [(7, 137), (1, 10), (7, 135), (7, 136)], [(7, 142), (1, 10), (7, 141), (0, 75)], [(7, 146), (1, 10), (7, 145), (0, 76)], [(7, 150), (1, 10), (7, 149), (0, 77)], [(7, 154), (1, 10), (7, 152), (7, 153)], [(7, 158), (1, 10), (7, 156), (7, 157)], [(7, 162), (1, 10), (7, 161), (0, 78)], [(7, 169), (1, 10), (7, 167), (7, 168)], [(7, 173), (1, 10), (7, 171), (7, 172)], [(7, 177), (1, 10), (7, 176), (0, 79)], [(7, 180), (1, 10), (7, 179)], [(7, 186), (1, 10), (7, 184), (7, 185)], [(7, 189), (1, 10), (7, 188)], [(7, 193), (1, 10), (7, 192)], [(7, 196), (1, 10), (7, 195)], [(7, 200), (1, 10), (7, 198), (7, 199)], [(7, 204), (1, 10), (7, 202), (7, 203)], [(7, 208), (1, 10), (7, 207), (0, 80)], [(7, 212), (1, 10), (7, 211), (0, 81)], [(7, 216), (1, 10), (7, 215), (0, 82)], [(7, 220), (1, 10), (7, 219), (0, 83)], [(7, 224), (1, 10), (7, 223), (0, 84)], [(7, 228), (1, 10), (7, 227), (0, 85)], [(7, 232), (1, 10), (7, 231), (0, 86)], [(7, 236), (1, 10), (7, 235), (0, 87)], [(8, 0), (1, 10), (7, 239), (0, 88)]]
def mT_6 : List zMT := [(⟨"LineBallsModel", "countHit", "(II)V"⟩, prog_11_method_34_code, 3, none, 9, 1, 2, []),
  (⟨"LineBallsModel", "log", "(III)V"⟩, prog_11_method_27_code, 5, none, 9, 1, 3, []),
  (⟨"LineBallsModel", "bounceAt", "(II)V"⟩, prog_11_method_31_code, 5, none, 9, 1, 2, []),
  (⟨"LineBallsModel", "bounce", "(II)V"⟩, prog_11_method_30_code, 5, none, 9, 1, 2, []),
  (⟨"LineBallsModel", "layBackInt", "(I)I"⟩, prog_11_method_44_code, 2, (some FieldType.int), 9, 1, 1, []),
  (⟨"LineBallsModel", "layBack", "(J)J"⟩, prog_11_method_43_code, 4, (some FieldType.long), 9, 1, 1, []),
  (⟨"LineBallsModel", "nextHit", "(Z)I"⟩, prog_11_method_100_code, 3, (some FieldType.int), 9, 1, 1, []),
  (⟨"LineBallsModel", "ballHitIn", "(I)I"⟩, prog_11_method_101_code, 2, (some FieldType.int), 9, 1, 1, []),
  (⟨"LineBallsModel", "cellIn", "(II)I"⟩, prog_11_method_104_code, 3, (some FieldType.int), 9, 1, 2, []),
  (⟨"LineBallsModel", "areTicks", "(I)Z"⟩, prog_11_method_102_code, 1, (some FieldType.boolean), 9, 0, 1, []),
  (⟨"LineBallsModel", "later", "(III)I"⟩, prog_11_method_103_code, 5, (some FieldType.int), 9, 1, 3, []),
  (⟨"LineBallsModel", "pulses", "(I)I"⟩, prog_11_method_41_code, 5, (some FieldType.int), 9, 1, 1, []),
  (⟨"LineBallsModel", "speedIn", "(II)I"⟩, prog_11_method_105_code, 3, (some FieldType.int), 9, 1, 2, []),
  (⟨"LineBallsModel", "hitsIn", "(I)I"⟩, prog_11_method_107_code, 2, (some FieldType.int), 9, 1, 1, []),
  (⟨"LineBallsModel", "growsIn", "(II)I"⟩, prog_11_method_106_code, 6, (some FieldType.int), 9, 1, 2, []),
  (⟨"LineBallsModel", "bouncesIn", "(I)I"⟩, prog_11_method_108_code, 2, (some FieldType.int), 9, 1, 1, []),
  (⟨"LineBallsModel", "energyIn", "(I)J"⟩, prog_11_method_109_code, 3, (some FieldType.long), 9, 1, 1, []),
  (⟨"LineBallsModel", "calmIn", "()I"⟩, prog_11_method_110_code, 3, (some FieldType.int), 9, 1, 0, []),
  (⟨"LineBallsModel", "energyIf", "(ZII)J"⟩, prog_11_method_111_code, 5, (some FieldType.long), 9, 1, 3, []),
  (⟨"LineBallsModel", "meanSpeed", "()D"⟩, prog_11_method_112_code, 3, (some FieldType.double), 9, 1, 0, []),
  (⟨"LineBallsModel", "share", "(I)F"⟩, prog_11_method_113_code, 4, (some FieldType.float), 9, 1, 1, []),
  (⟨"LineBallsModel", "middle", "()D"⟩, prog_11_method_114_code, 3, (some FieldType.double), 9, 1, 0, []),
  (⟨"LineBallsModel", "pulse", "(I)I"⟩, prog_11_method_115_code, 2, (some FieldType.int), 9, 1, 1, []),
  (⟨"LineBallsModel", "tick", "(I)I"⟩, prog_11_method_116_code, 2, (some FieldType.int), 9, 1, 1, []),
  (⟨"LineBallsModel", "kick", "(II)I"⟩, prog_11_method_119_code, 4, (some FieldType.int), 9, 1, 2, []),
  (⟨"LineBallsModel", "becomes", "(III)I"⟩, prog_11_method_118_code, 7, (some FieldType.int), 9, 1, 3, []),
  (⟨"LineBallsModel", "pushed", "(J)V"⟩, prog_11_method_117_code, 3, none, 9, 1, 1, []),
  (⟨"LineBallsModel", "setWeight", "(II)I"⟩, prog_11_method_120_code, 3, (some FieldType.int), 9, 1, 2, []),
  (⟨"LineBallsModel", "setSteal", "(II)I"⟩, prog_11_method_121_code, 5, (some FieldType.int), 9, 1, 2, []),
  (⟨"LineBallsModel", "addBall", "(III)I"⟩, prog_11_method_122_code, 7, (some FieldType.int), 9, 1, 3, []),
  (⟨"LineBallsModel", "removeBall", "(I)I"⟩, prog_11_method_125_code, 5, (some FieldType.int), 9, 1, 1, []),
  (⟨"LineBallsModel", "dropHits", "(I)V"⟩, prog_11_method_124_code, 6, none, 9, 1, 1, []),
  (⟨"LineBallsModel", "renumbered", "(II)I"⟩, prog_11_method_123_code, 2, (some FieldType.int), 9, 0, 2, []),
  (⟨"LineBallsModel", "turn", "(I)I"⟩, prog_11_method_126_code, 3, (some FieldType.int), 9, 1, 1, []),
  (⟨"LineBallsModel", "stop", "()I"⟩, prog_11_method_127_code, 5, (some FieldType.int), 9, 1, 0, []),
  (⟨"LineBallsModel", "place", "(II)I"⟩, prog_11_method_128_code, 4, (some FieldType.int), 9, 1, 2, []),
  (⟨"LineBallsModel", "keep", "(I)I"⟩, prog_11_method_130_code, 3, (some FieldType.int), 9, 1, 1, []),
  (⟨"LineBallsModel", "isKeep", "(I)Z"⟩, prog_11_method_129_code, 1, (some FieldType.boolean), 9, 0, 1, []),
  (⟨"LineBallsModel", "restore", "(I)I"⟩, prog_11_method_131_code, 3, (some FieldType.int), 9, 1, 1, []),
  (⟨"LineBallsModel", "undo", "()I"⟩, prog_11_method_133_code, 2, (some FieldType.int), 9, 1, 0, [])]
def mP_6 : List (List (Nat × Nat)) := [[(8, 4), (1, 10), (8, 3), (0, 89)], [(8, 8), (1, 10), (8, 7), (0, 90)], [(8, 16), (1, 10), (8, 15), (0, 91)], [(8, 20), (1, 10), (8, 19), (0, 92)], [(8, 24), (1, 10), (8, 23), (0, 93)], [(8, 28), (1, 10), (8, 27), (0, 94)], [(8, 32), (1, 10), (8, 30), (8, 31)], [(8, 36), (1, 10), (8, 34), (8, 35)], [(8, 40), (1, 10), (8, 38), (8, 39)], [(8, 43), (1, 10), (8, 42)], [(8, 48), (1, 10), (8, 47), (0, 95)], [(8, 52), (1, 10), (8, 51), (0, 96)], [(8, 56), (1, 10), (8, 54), (8, 55)], [(8, 60), (1, 10), (8, 58), (8, 59)], [(8, 64), (1, 10), (8, 63), (0, 97)], [(8, 68), (1, 10), (8, 66), (8, 67)], [(8, 72), (1, 10), (8, 70), (8, 71)], [(8, 76), (1, 10), (8, 74), (8, 75)], [(8, 80), (1, 10), (8, 78), (8, 79)], [(8, 84), (1, 10), (8, 82), (8, 83)], [(8, 88), (1, 10), (8, 86), (8, 87)], [(8, 92), (1, 10), (8, 90), (8, 91)], [(8, 97), (1, 10), (8, 95), (8, 96)], [(8, 102), (1, 10), (8, 100), (8, 101)], [(8, 106), (1, 10), (8, 104), (8, 105)], [(8, 110), (1, 10), (8, 109), (0, 98)], [(8, 114), (1, 10), (8, 113), (0, 99)], [(8, 118), (1, 10), (8, 116), (8, 117)], [(8, 123), (1, 10), (8, 121), (8, 122)], [(8, 128), (1, 10), (8, 126), (8, 127)], [(8, 132), (1, 10), (8, 130), (8, 131)], [(8, 136), (1, 10), (8, 135), (0, 100)], [(8, 139), (1, 10), (8, 138)], [(8, 143), (1, 10), (8, 141), (8, 142)], [(8, 147), (1, 10), (8, 145), (8, 146)], [(8, 151), (1, 10), (8, 149), (8, 150)], [(8, 155), (1, 10), (8, 153), (8, 154)], [(8, 158), (1, 10), (8, 157)], [(8, 162), (1, 10), (8, 160), (8, 161)], [(8, 166), (1, 10), (8, 164), (8, 165)]]
def mT_7 : List zMT := [(⟨"LineBallsModel", "undoCount", "()I"⟩, prog_11_method_134_code, 1, (some FieldType.int), 9, 1, 0, []),
  (⟨"LineBallsModel", "writeLine", "()I"⟩, prog_11_method_137_code, 3, (some FieldType.int), 9, 1, 0, []),
  (⟨"LineBallsModel", "write", "(I)V"⟩, prog_11_method_135_code, 2, none, 9, 1, 1, []),
  (⟨"LineBallsModel", "writeBalls", "()I"⟩, prog_11_method_139_code, 3, (some FieldType.int), 9, 1, 0, []),
  (⟨"LineBallsModel", "space", "()V"⟩, prog_11_method_138_code, 1, none, 9, 1, 0, []),
  (⟨"LineBallsModel", "writeInt", "(I)V"⟩, prog_11_method_136_code, 3, none, 9, 1, 1, []),
  (⟨"LineBallsModel", "writeLog", "()I"⟩, prog_11_method_141_code, 2, (some FieldType.int), 9, 1, 0, []),
  (⟨"LineBallsModel", "writeBall", "(I)V"⟩, prog_11_method_140_code, 2, none, 9, 1, 1, []),
  (⟨"LineBallsModel", "outputByte", "(I)I"⟩, prog_11_method_142_code, 2, (some FieldType.int), 9, 1, 1, []),
  (⟨"LineBallsLaw", "append", "(LLineBalls;IIIII[J)I"⟩, method_3_code, 8, (some FieldType.int), 10, 0, 7, [(0, 16, 19, 13)]),
  (⟨"LineBallsLaw", "truncate", "(LLineBalls;I)I"⟩, method_4_code, 3, (some FieldType.int), 10, 0, 2, [(0, 5, 8, 19)]),
  (⟨"LineBallsLaw", "property", "(LLineBalls;I[J)I"⟩, method_5_code, 4, (some FieldType.int), 10, 0, 3, [(0, 9, 12, 19)]),
  (⟨"LineBallsLaw", "ball", "(LLineBalls;II[J)I"⟩, method_6_code, 5, (some FieldType.int), 10, 0, 4, [(0, 10, 13, 29), (0, 10, 17, 19)]),
  (⟨"LineBallsLaw", "at", "(LLineBalls;I[J)I"⟩, method_7_code, 4, (some FieldType.int), 10, 0, 3, [(0, 9, 12, 29)]),
  (⟨"LineBallsLaw", "post", "(LLineBalls;II[J)I"⟩, method_8_code, 5, (some FieldType.int), 10, 0, 4, [(0, 10, 13, 29), (0, 10, 17, 19)]),
  (⟨"LineBallsLaw", "wall", "(LLineBalls;ZI[J)I"⟩, method_9_code, 5, (some FieldType.int), 10, 0, 4, [(0, 10, 13, 19)]),
  (⟨"LineBallsLaw", "placed", "(LLineBalls;I[J)I"⟩, method_10_code, 4, (some FieldType.int), 10, 0, 3, [(0, 9, 12, 44)]),
  (⟨"LineBallsLaw", "neighbour", "(LLineBalls;IZ[J)I"⟩, method_11_code, 5, (some FieldType.int), 10, 0, 4, [(0, 10, 13, 29)]),
  (⟨"LineBallsLaw", "room", "(LLineBalls;IZ[J)I"⟩, method_12_code, 5, (some FieldType.int), 10, 0, 4, [(0, 10, 13, 29)]),
  (⟨"LineBallsLaw", "hits", "(LLineBalls;II[J)I"⟩, method_13_code, 5, (some FieldType.int), 10, 0, 4, [(0, 10, 13, 29)]),
  (⟨"LineBallsLaw", "logged", "(LLineBalls;II[J)I"⟩, method_14_code, 5, (some FieldType.int), 10, 0, 4, [(0, 10, 13, 29), (0, 10, 17, 19)]),
  (⟨"LineBallsLaw", "account", "(LLineBalls;I[J)I"⟩, method_15_code, 4, (some FieldType.int), 10, 0, 3, [(0, 8, 11, 19)]),
  (⟨"LineBallsLaw", "count", "(LLineBalls;I[J)I"⟩, method_16_code, 4, (some FieldType.int), 10, 0, 3, [(0, 9, 12, 19)]),
  (⟨"LineBallsLaw", "traded", "(LLineBalls;IIZ[J)I"⟩, method_17_code, 6, (some FieldType.int), 10, 0, 5, [(0, 12, 15, 29), (0, 12, 19, 19)]),
  (⟨"LineBallsLaw", "bounced", "(LLineBalls;II[J)I"⟩, method_18_code, 5, (some FieldType.int), 10, 0, 4, [(0, 10, 13, 29), (0, 10, 17, 19)]),
  (⟨"LineBallsLaw", "dueIn", "(LLineBalls;I[J)I"⟩, method_19_code, 4, (some FieldType.int), 10, 0, 3, [(0, 9, 12, 29)]),
  (⟨"LineBallsLaw", "ballHitIn", "(LLineBalls;I[J)I"⟩, method_20_code, 4, (some FieldType.int), 10, 0, 3, [(0, 9, 12, 29)]),
  (⟨"LineBallsLaw", "cellIn", "(LLineBalls;II[J)I"⟩, method_21_code, 5, (some FieldType.int), 10, 0, 4, [(0, 10, 13, 29), (0, 10, 17, 19)]),
  (⟨"LineBallsLaw", "speedIn", "(LLineBalls;II[J)I"⟩, method_22_code, 5, (some FieldType.int), 10, 0, 4, [(0, 10, 13, 29), (0, 10, 17, 19)]),
  (⟨"LineBallsLaw", "hitsIn", "(LLineBalls;I[J)I"⟩, method_23_code, 4, (some FieldType.int), 10, 0, 3, [(0, 9, 12, 19)]),
  (⟨"LineBallsLaw", "bouncesIn", "(LLineBalls;I[J)I"⟩, method_24_code, 4, (some FieldType.int), 10, 0, 3, [(0, 9, 12, 19)]),
  (⟨"LineBallsLaw", "energyIn", "(LLineBalls;I[J)I"⟩, method_25_code, 4, (some FieldType.int), 10, 0, 3, [(0, 8, 11, 19)]),
  (⟨"LineBallsLaw", "energyIf", "(LLineBalls;ZII[J)I"⟩, method_26_code, 6, (some FieldType.int), 10, 0, 5, [(0, 11, 14, 19)]),
  (⟨"LineBallsLaw", "share", "(LLineBalls;I[D)I"⟩, method_27_code, 4, (some FieldType.int), 10, 0, 3, [(0, 9, 12, 29)]),
  (⟨"LineBallsLaw", "pulse", "(LLineBalls;I[J)I"⟩, method_28_code, 4, (some FieldType.int), 10, 0, 3, [(0, 9, 12, 19)]),
  (⟨"LineBallsLaw", "tick", "(LLineBalls;I[J)I"⟩, method_29_code, 4, (some FieldType.int), 10, 0, 3, [(0, 9, 12, 19)]),
  (⟨"LineBallsLaw", "kick", "(LLineBalls;II[J)I"⟩, method_30_code, 5, (some FieldType.int), 10, 0, 4, [(0, 10, 13, 29), (0, 10, 17, 19)]),
  (⟨"LineBallsLaw", "setWeight", "(LLineBalls;II[J)I"⟩, method_31_code, 5, (some FieldType.int), 10, 0, 4, [(0, 10, 13, 29), (0, 10, 17, 19)]),
  (⟨"LineBallsLaw", "setSteal", "(LLineBalls;II[J)I"⟩, method_32_code, 5, (some FieldType.int), 10, 0, 4, [(0, 10, 13, 29), (0, 10, 17, 19)]),
  (⟨"LineBallsLaw", "addBall", "(LLineBalls;III[J)I"⟩, method_33_code, 6, (some FieldType.int), 10, 0, 5, [(0, 12, 15, 29), (0, 12, 19, 19), (0, 12, 23, 13)])]
def mP_7 : List (List (Nat × Nat)) := [[(8, 170), (1, 10), (8, 168), (8, 169)], [(8, 174), (1, 10), (8, 172), (8, 173)], [(8, 178), (1, 10), (8, 177), (0, 101)], [(8, 182), (1, 10), (8, 180), (8, 181)], [(8, 186), (1, 10), (8, 185), (0, 102)], [(8, 190), (1, 10), (8, 189), (0, 103)], [(8, 194), (1, 10), (8, 192), (8, 193)], [(8, 198), (1, 10), (8, 197), (0, 104)], [(8, 202), (1, 10), (8, 200), (8, 201)], [(4, 26), (1, 0), (4, 25)], [(4, 102), (1, 0), (4, 101)], [(4, 128), (1, 0), (4, 127)], [(4, 135), (1, 0), (4, 134)], [(4, 162), (1, 0), (4, 161)], [(4, 173), (1, 0), (4, 172)], [(4, 184), (1, 0), (4, 183)], [(4, 191), (1, 0), (4, 190)], [(4, 214), (1, 0), (4, 213)], [(4, 226), (1, 0), (4, 225)], [(4, 233), (1, 0), (4, 232)], [(5, 4), (1, 0), (5, 3)], [(5, 15), (1, 0), (5, 14)], [(5, 30), (1, 0), (5, 29)], [(5, 37), (1, 0), (5, 36)], [(5, 46), (1, 0), (5, 45)], [(5, 54), (1, 0), (5, 53)], [(5, 65), (1, 0), (5, 64)], [(5, 72), (1, 0), (5, 71)], [(5, 83), (1, 0), (5, 82)], [(5, 90), (1, 0), (5, 89)], [(5, 97), (1, 0), (5, 96)], [(5, 104), (1, 0), (5, 103)], [(5, 111), (1, 0), (5, 110)], [(5, 118), (1, 0), (5, 117)], [(5, 126), (1, 0), (5, 125)], [(5, 133), (1, 0), (5, 132)], [(5, 140), (1, 0), (5, 139)], [(5, 148), (1, 0), (5, 147)], [(5, 155), (1, 0), (5, 154)], [(5, 162), (1, 0), (5, 161)]]
def mT_8 : List zMT := [(⟨"LineBallsLaw", "removeBall", "(LLineBalls;I[J)I"⟩, method_34_code, 4, (some FieldType.int), 10, 0, 3, [(0, 9, 12, 29)]),
  (⟨"LineBallsLaw", "turn", "(LLineBalls;I[J)I"⟩, method_35_code, 4, (some FieldType.int), 10, 0, 3, [(0, 9, 12, 29)]),
  (⟨"LineBallsLaw", "place", "(LLineBalls;II[J)I"⟩, method_36_code, 5, (some FieldType.int), 10, 0, 4, [(0, 10, 13, 29), (0, 10, 17, 13)]),
  (⟨"LineBallsLaw", "keep", "(LLineBalls;I[J)I"⟩, method_37_code, 4, (some FieldType.int), 10, 0, 3, [(0, 9, 12, 29)]),
  (⟨"LineBallsLaw", "restore", "(LLineBalls;I[J)I"⟩, method_38_code, 4, (some FieldType.int), 10, 0, 3, [(0, 9, 12, 29), (0, 9, 15, 13)]),
  (⟨"LineBallsLaw", "undo", "(LLineBalls;[J)I"⟩, method_39_code, 3, (some FieldType.int), 10, 0, 2, [(0, 8, 11, 13)]),
  (⟨"LineBallsLaw", "outputByte", "(LLineBalls;I[J)I"⟩, method_40_code, 4, (some FieldType.int), 10, 0, 3, [(0, 9, 12, 44)]),
  (⟨"java/lang/String", "length", "()I"⟩, prog_21_method_54_code, 1, (some FieldType.int), 11, 1, 0, []),
  (⟨"java/lang/String", "coder", "()B"⟩, prog_21_method_152_code, 1, (some FieldType.byte), 11, 1, 0, []),
  (⟨"java/lang/String", "charAt", "(I)C"⟩, prog_21_method_56_code, 2, (some FieldType.char), 11, 1, 1, []),
  (⟨"java/lang/String", "isLatin1", "()Z"⟩, prog_21_method_154_code, 1, (some FieldType.boolean), 11, 1, 0, []),
  (⟨"java/lang/String", "checkIndex", "(II)V"⟩, prog_21_method_155_code, 2, none, 11, 0, 2, []),
  (⟨"java/lang/StringLatin1", "charAt", "([BI)C"⟩, prog_22_method_2_code, 2, (some FieldType.char), 12, 0, 2, []),
  (⟨"jdk/internal/util/Preconditions", "checkIndex", "(IILjava/util/function/BiFunction;)I"⟩, prog_29_method_11_code, 3, (some FieldType.int), 13, 0, 3, [])]
def mP_8 : List (List (Nat × Nat)) := [[(5, 170), (1, 0), (5, 169)], [(5, 197), (1, 0), (5, 196)], [(5, 204), (1, 0), (5, 203)], [(5, 212), (1, 0), (5, 211)], [(5, 222), (1, 0), (5, 221)], [(5, 229), (1, 0), (5, 228)], [(6, 0), (1, 0), (5, 239)], [(2, 150), (1, 17), (2, 148), (2, 149)], [(2, 154), (1, 17), (2, 152), (2, 153)], [(2, 160), (1, 17), (2, 158), (2, 159)], [(2, 164), (1, 17), (2, 162), (2, 163)], [(2, 170), (1, 17), (2, 169)], [(2, 167), (1, 18), (2, 166)], [(2, 175), (1, 19), (2, 174)]]
def mLaw : zMT := (x, code, 10, ret, 10, 0, 1, [])
def mT : List zMT := mT_0 ++ (mT_1 ++ (mT_2 ++ (mT_3 ++ (mT_4 ++ (mT_5 ++ (mT_6 ++ (mT_7 ++ (mT_8 ++ [mLaw]))))))))
def mLn (n : Nat) : zMT := mT.getD n mLaw
def mWd (m : zMT) : Cond := match m.2.2.2.2.2.2.2 with
  | [] => .code m.1 m.2.1 m.2.2.1 m.2.2.2.1
  | h :: t => .codeWith m.1 m.2.1 m.2.2.1 m.2.2.2.1 (h :: t)
def mWs (m : zMT) : List Cond := mWd m :: .initialized m.1.cls :: (match m.2.2.2.2.2.1 with
  | 0 => [.static m.1]
  | 1 => [.instanceMethod m.1, .selects m.1.cls m.1 m.1]
  | _ => [.instanceMethod m.1])
def mSg (m : zMT) : Bool := decide ((parseMethodDescriptor m.1.desc).map (fun d => d.parameters.length) = some m.2.2.2.2.2.2.1) && plainName m.1.cls && decide (m.1.cls ≠ "java/lang/invoke/MethodHandle") && decide (m.1.cls ≠ "java/lang/invoke/VarHandle") && decide (m.1.cls = zC m.2.2.2.2.1) && decide (m.2.2.2.2.2.1 = 2 → m.1.name = "<init>") && decide (m.2.2.1 ≤ 12)
def mCk : List zMT → List (List (Nat × Nat)) → Bool
  | [], _ => true
  | _ :: _, [] => false
  | m :: ms, p :: ps => chkW (mWs m) p && mSg m && mCk ms ps
theorem mCk_ok : ∀ (ms : List zMT) (ps : List (List (Nat × Nat))), mCk ms ps = true → ∀ m ∈ ms, (∀ w ∈ mWs m, w ∈ ALLW) ∧ mSg m = true
  | [], _, _ => fun _ h => by cases h
  | _ :: _, [], h => by simp [mCk] at h
  | m :: ms, p :: ps, h => by
    simp only [mCk, Bool.and_eq_true] at h
    intro x hx
    rcases List.mem_cons.mp hx with rfl | hx
    · exact ⟨chkW_ok _ _ h.1.1, h.1.2⟩
    · exact mCk_ok ms ps h.2 x hx

set_option maxRecDepth 100000 in
theorem mT_0_ok : ∀ m ∈ mT_0, (∀ w ∈ mWs m, w ∈ ALLW) ∧ mSg m = true := mCk_ok _ mP_0 (by decide +kernel)
set_option maxRecDepth 100000 in
theorem mT_1_ok : ∀ m ∈ mT_1, (∀ w ∈ mWs m, w ∈ ALLW) ∧ mSg m = true := mCk_ok _ mP_1 (by decide +kernel)
set_option maxRecDepth 100000 in
theorem mT_2_ok : ∀ m ∈ mT_2, (∀ w ∈ mWs m, w ∈ ALLW) ∧ mSg m = true := mCk_ok _ mP_2 (by decide +kernel)
set_option maxRecDepth 100000 in
theorem mT_3_ok : ∀ m ∈ mT_3, (∀ w ∈ mWs m, w ∈ ALLW) ∧ mSg m = true := mCk_ok _ mP_3 (by decide +kernel)
set_option maxRecDepth 100000 in
theorem mT_4_ok : ∀ m ∈ mT_4, (∀ w ∈ mWs m, w ∈ ALLW) ∧ mSg m = true := mCk_ok _ mP_4 (by decide +kernel)
set_option maxRecDepth 100000 in
theorem mT_5_ok : ∀ m ∈ mT_5, (∀ w ∈ mWs m, w ∈ ALLW) ∧ mSg m = true := mCk_ok _ mP_5 (by decide +kernel)
set_option maxRecDepth 100000 in
theorem mT_6_ok : ∀ m ∈ mT_6, (∀ w ∈ mWs m, w ∈ ALLW) ∧ mSg m = true := mCk_ok _ mP_6 (by decide +kernel)
set_option maxRecDepth 100000 in
theorem mT_7_ok : ∀ m ∈ mT_7, (∀ w ∈ mWs m, w ∈ ALLW) ∧ mSg m = true := mCk_ok _ mP_7 (by decide +kernel)
set_option maxRecDepth 100000 in
theorem mT_8_ok : ∀ m ∈ mT_8, (∀ w ∈ mWs m, w ∈ ALLW) ∧ mSg m = true := mCk_ok _ mP_8 (by decide +kernel)
theorem mT_ok : ∀ m ∈ mT_0 ++ (mT_1 ++ (mT_2 ++ (mT_3 ++ (mT_4 ++ (mT_5 ++ (mT_6 ++ (mT_7 ++ (mT_8)))))))), (∀ w ∈ mWs m, w ∈ ALLW) ∧ mSg m = true := by
  intro m h
  simp only [List.mem_append] at h
  rcases h with h | h | h | h | h | h | h | h | h
  · exact mT_0_ok m h
  · exact mT_1_ok m h
  · exact mT_2_ok m h
  · exact mT_3_ok m h
  · exact mT_4_ok m h
  · exact mT_5_ok m h
  · exact mT_6_ok m h
  · exact mT_7_ok m h
  · exact mT_8_ok m h
end
section
/-! The links of each class: (pool index, kind, a, b). Made by wip/whole/gen/gen3.py. Kinds: 0 field b of class a; 1 method a; 2 constructor a of a nest mate; 3 Object.<init>; 4 constructor of exception a; 5 class a; 6 exception class a; 7 String constant a; 8 int a; 9 long a (negative if b is 1); 10 double by its bits; 11 arraycopy; 12 to 16 Math; 17 to 20 of String and Preconditions -/
def lk_0 : List (Nat × Nat × Nat × Nat) := [(3, 3, 0, 0), (9, 0, 0, 0), (15, 0, 0, 1), (18, 0, 0, 2), (21, 0, 0, 3), (24, 0, 0, 4), (27, 0, 0, 5), (30, 0, 0, 6), (33, 0, 0, 7), (36, 0, 0, 8), (43, 0, 0, 9), (46, 0, 0, 10), (39, 1, 3, 0)]
def lp_0 : List (List (Nat × Nat)) := [[(1, 155)], [(1, 156)], [(1, 158)], [(1, 161)], [(1, 164)], [(1, 167)], [(1, 169)], [(1, 172)], [(1, 175)], [(1, 178)], [(1, 181)], [(1, 183)], [(3, 121)]]
def lk_1 : List (Nat × Nat × Nat × Nat) := [(1, 3, 0, 0), (7, 0, 1, 0), (13, 0, 1, 1), (16, 0, 1, 2)]
def lp_1 : List (List (Nat × Nat)) := [[(1, 62)], [(1, 63)], [(1, 66)], [(1, 69)]]
def lk_2 : List (Nat × Nat × Nat × Nat) := [(3, 3, 0, 0), (9, 0, 2, 0), (15, 0, 2, 1), (19, 0, 2, 2), (22, 0, 2, 3), (25, 0, 2, 4), (29, 0, 2, 5), (32, 0, 2, 6), (35, 0, 2, 7), (38, 11, 0, 0), (44, 1, 19, 0), (48, 1, 17, 0)]
def lp_2 : List (List (Nat × Nat)) := [[(1, 111)], [(1, 112)], [(1, 113)], [(1, 116)], [(1, 119)], [(1, 122)], [(1, 125)], [(1, 128)], [(1, 131)], [(3, 73)], [(5, 190)], [(5, 194)]]
def lk_3 : List (Nat × Nat × Nat × Nat) := [(3, 3, 0, 0), (9, 5, 4, 0), (17, 1, 23, 0), (11, 0, 3, 0), (18, 0, 3, 1), (22, 0, 3, 2), (25, 1, 32, 0)]
def lp_3 : List (List (Nat × Nat)) := [[(2, 65)], [(2, 66)], [(2, 68)], [(2, 69)], [(2, 70)], [(2, 71)], [(3, 50)]]
def lk_4 : List (Nat × Nat × Nat × Nat) := [(3, 3, 0, 0), (9, 5, 0, 0), (21, 5, 1, 0), (27, 2, 10, 0), (93, 0, 1, 0), (169, 0, 1, 1), (178, 0, 1, 2), (35, 5, 5, 0), (37, 2, 46, 0), (42, 5, 2, 0), (44, 2, 13, 0), (180, 0, 2, 1), (198, 0, 2, 2), (119, 0, 2, 3), (135, 0, 2, 4), (179, 0, 2, 5), (193, 0, 2, 6), (165, 0, 2, 7), (49, 2, 0, 0), (90, 0, 0, 0), (87, 0, 0, 1), (106, 0, 0, 2), (109, 0, 0, 3), (162, 0, 0, 5), (201, 0, 0, 6), (175, 0, 0, 7), (190, 0, 0, 8), (148, 0, 0, 9), (151, 0, 0, 10), (50, 1, 24, 0), (67, 1, 11, 0), (71, 1, 47, 0), (73, 1, 14, 0), (54, 0, 4, 0), (58, 0, 4, 1), (11, 0, 4, 2), (61, 0, 4, 3), (17, 0, 4, 4), (23, 0, 4, 5), (64, 0, 4, 6), (28, 0, 4, 7), (32, 0, 4, 8), (38, 0, 4, 9), (45, 0, 4, 10), (94, 1, 26, 0), (98, 1, 27, 0), (124, 1, 1, 0), (127, 1, 31, 0), (74, 1, 2, 0), (78, 1, 12, 0), (81, 1, 48, 0), (84, 1, 15, 0), (138, 1, 34, 0), (145, 1, 4, 0), (142, 1, 35, 0), (155, 1, 36, 0), (166, 1, 3, 0), (112, 1, 5, 0), (172, 1, 6, 0), (183, 1, 49, 0), (159, 1, 37, 0), (186, 1, 38, 0), (194, 1, 7, 0), (205, 13, 0, 0), (202, 1, 16, 0), (123, 1, 41, 0), (102, 1, 25, 0), (116, 1, 8, 0), (130, 1, 56, 0), (134, 1, 18, 0)]
def lp_4 : List (List (Nat × Nat)) := [[(1, 53)], [(1, 54)], [(1, 56)], [], [(1, 64)], [(1, 68)], [(1, 71)], [(1, 80)], [], [(1, 106)], [], [(1, 115)], [(1, 118)], [(1, 120)], [(1, 123)], [(1, 127)], [(1, 130)], [(1, 132)], [], [(1, 157)], [(1, 159)], [(1, 162)], [(1, 165)], [(1, 171)], [(1, 174)], [(1, 177)], [(1, 180)], [(1, 182)], [(1, 184)], [(1, 208)], [(1, 212)], [(1, 216)], [(1, 220)], [(1, 224)], [(1, 227)], [(1, 229)], [(1, 231)], [(1, 234)], [(1, 236)], [(1, 238)], [(2, 1)], [(2, 3)], [(2, 5)], [(2, 7)], [(2, 231)], [(2, 235)], [(3, 34)], [(3, 38)], [(3, 54)], [(3, 58)], [(3, 62)], [(3, 69)], [(3, 113)], [(3, 117)], [(3, 122)], [(3, 126)], [(3, 130)], [(3, 131)], [(3, 135)], [(3, 139)], [(3, 144)], [(3, 148)], [(3, 151)], [(3, 155)], [(3, 158)], [(3, 223)], [(4, 223)], [(5, 24)], [(5, 179)], [(5, 186)]]
def lk_5 : List (Nat × Nat × Nat × Nat) := [(3, 3, 0, 0), (9, 0, 5, 0), (15, 0, 5, 1), (18, 0, 5, 2), (21, 0, 5, 3), (24, 0, 5, 4), (28, 0, 5, 5), (31, 11, 0, 0), (37, 12, 0, 0), (50, 1, 51, 0), (46, 1, 52, 0), (43, 15, 0, 0), (53, 1, 53, 0), (56, 1, 57, 0)]
def lp_5 : List (List (Nat × Nat)) := [[(1, 85)], [(1, 86)], [(1, 87)], [(1, 88)], [(1, 89)], [(1, 90)], [(1, 91)], [(3, 66)], [(3, 143)], [(3, 170)], [(3, 174)], [(3, 178)], [(3, 181)], [(5, 183)]]
def lk_6 : List (Nat × Nat × Nat × Nat) := [(3, 3, 0, 0), (9, 0, 6, 0), (15, 0, 6, 1), (19, 1, 60, 0)]
def lp_6 : List (List (Nat × Nat)) := [[(1, 37)], [(1, 38)], [(1, 40)], [(3, 237)]]
def lk_7 : List (Nat × Nat × Nat × Nat) := [(122, 0, 4, 0), (96, 0, 4, 3), (85, 0, 4, 6), (3, 3, 0, 0), (9, 0, 7, 0), (15, 0, 7, 1), (25, 0, 7, 2), (41, 0, 7, 3), (62, 0, 7, 4), (32, 0, 7, 5), (29, 0, 7, 6), (19, 12, 0, 0), (35, 1, 64, 0), (150, 1, 65, 0), (38, 1, 66, 0), (65, 7, 0, 0), (67, 1, 67, 0), (46, 1, 68, 0), (142, 1, 327, 0), (146, 1, 329, 0), (58, 1, 69, 0), (71, 1, 70, 0), (119, 1, 71, 0), (141, 8, 1000000, 0), (74, 7, 1, 0), (76, 1, 72, 0), (115, 1, 73, 0), (79, 1, 24, 0), (44, 7, 2, 0), (50, 1, 74, 0), (88, 1, 75, 0), (125, 1, 25, 0), (92, 1, 28, 0), (53, 7, 3, 0), (55, 1, 76, 0), (99, 1, 77, 0), (129, 1, 78, 0), (133, 1, 79, 0), (102, 7, 4, 0), (104, 7, 5, 0), (109, 7, 6, 0), (137, 1, 29, 0), (106, 1, 80, 0), (111, 1, 30, 0)]
def lp_7 : List (List (Nat × Nat)) := [[(1, 226)], [(1, 233)], [(1, 239)], [(2, 37)], [(2, 38)], [(2, 39)], [(2, 40)], [(2, 41)], [(2, 42)], [(2, 43)], [(2, 44)], [(2, 123)], [(2, 126)], [(2, 130)], [(2, 134)], [], [(2, 139)], [(2, 143)], [(2, 147)], [(2, 157)], [(2, 195)], [(2, 199)], [(2, 203)], [(2, 207)], [], [(2, 209)], [(2, 213)], [(2, 217)], [], [(2, 219)], [(2, 223)], [(2, 227)], [(2, 239)], [], [(3, 4)], [(3, 8)], [(3, 12)], [(3, 15)], [], [], [], [(3, 22)], [(3, 26)], [(3, 30)]]
def lk_8 : List (Nat × Nat × Nat × Nat) := [(1, 3, 0, 0), (17, 5, 6, 0), (19, 2, 58, 0), (324, 0, 6, 0), (309, 0, 6, 1), (30, 5, 4, 0), (32, 1, 23, 0), (167, 0, 1, 0), (170, 0, 1, 1), (173, 0, 1, 2), (113, 0, 5, 5), (222, 0, 2, 1), (226, 0, 2, 2), (229, 0, 2, 3), (232, 0, 2, 4), (233, 0, 2, 5), (234, 0, 2, 6), (235, 0, 2, 7), (128, 0, 0, 1), (133, 0, 0, 2), (136, 0, 0, 3), (139, 0, 0, 4), (142, 0, 0, 5), (145, 0, 0, 6), (148, 0, 0, 7), (151, 0, 0, 8), (100, 0, 4, 0), (106, 0, 4, 1), (236, 0, 4, 2), (90, 0, 4, 3), (184, 0, 4, 4), (327, 0, 4, 5), (103, 0, 4, 6), (178, 0, 4, 7), (174, 0, 4, 8), (109, 0, 4, 9), (192, 0, 4, 10), (40, 5, 7, 0), (42, 1, 62, 0), (49, 5, 3, 0), (51, 1, 20, 0), (303, 0, 3, 2), (9, 0, 8, 0), (13, 0, 8, 1), (20, 0, 8, 2), (24, 0, 8, 3), (27, 0, 8, 4), (33, 0, 8, 5), (37, 0, 8, 6), (45, 0, 8, 7), (52, 0, 8, 8), (56, 0, 8, 9), (60, 0, 8, 10), (75, 1, 63, 0), (79, 1, 81, 0), (83, 1, 21, 0), (87, 1, 32, 0), (93, 1, 78, 0), (97, 1, 29, 0), (240, 1, 3, 0), (260, 1, 90, 0), (266, 1, 33, 0), (263, 1, 50, 0), (210, 1, 53, 0), (204, 1, 54, 0), (118, 1, 39, 0), (121, 1, 40, 0), (273, 10, 13830554455654793216, 0), (216, 1, 41, 0), (283, 1, 42, 0), (157, 1, 27, 0), (312, 1, 59, 0), (286, 1, 25, 0), (315, 1, 60, 0), (318, 1, 61, 0), (275, 12, 0, 0), (321, 1, 100, 0), (213, 1, 55, 0), (64, 6, 0, 0), (66, 4, 0, 0), (67, 1, 102, 0), (71, 1, 104, 0), (243, 6, 1, 0), (245, 4, 1, 0), (124, 1, 107, 0), (160, 6, 2, 0), (162, 4, 2, 0), (154, 1, 109, 0), (163, 1, 111, 0), (181, 6, 3, 0), (183, 4, 3, 0), (188, 1, 43, 0), (196, 1, 17, 0), (201, 1, 51, 0), (207, 1, 118, 0), (219, 1, 44, 0), (246, 1, 38, 0), (250, 1, 7, 0), (254, 1, 6, 0), (257, 1, 9, 0), (269, 1, 126, 0), (272, 1, 8, 0), (280, 13, 0, 0), (290, 1, 30, 0), (294, 1, 45, 0), (297, 1, 31, 0), (300, 1, 143, 0), (306, 1, 22, 0)]
def lp_8 : List (List (Nat × Nat)) := [[(1, 29)], [(1, 32)], [], [(1, 39)], [(1, 41)], [(1, 48)], [(1, 50)], [(1, 65)], [(1, 67)], [(1, 70)], [(1, 92)], [(1, 114)], [(1, 117)], [(1, 121)], [(1, 124)], [(1, 126)], [(1, 129)], [(1, 133)], [(1, 160)], [(1, 163)], [(1, 166)], [(1, 168)], [(1, 170)], [(1, 173)], [(1, 176)], [(1, 179)], [(1, 225)], [(1, 228)], [(1, 230)], [(1, 232)], [(1, 235)], [(1, 237)], [(2, 0)], [(2, 2)], [(2, 4)], [(2, 6)], [(2, 8)], [(2, 32)], [(2, 34)], [(2, 60)], [(2, 62)], [(2, 72)], [(2, 80)], [(2, 81)], [(2, 82)], [(2, 83)], [(2, 84)], [(2, 85)], [(2, 86)], [(2, 87)], [(2, 88)], [(2, 89)], [(2, 90)], [(2, 119)], [(3, 42)], [(3, 46)], [(3, 74)], [(3, 87)], [(3, 88)], [(3, 93)], [(3, 105)], [(3, 109)], [(3, 166)], [(3, 185)], [(3, 186)], [(3, 194)], [(3, 206)], [(3, 210)], [(3, 215)], [(3, 219)], [(3, 232)], [(3, 233)], [(4, 1)], [(4, 2)], [(4, 7)], [(4, 15)], [(4, 16)], [(4, 20)], [(4, 32)], [(4, 74)], [(4, 96)], [(4, 108)], [(4, 111)], [(4, 120)], [(4, 141)], [(4, 145)], [(4, 154)], [(4, 167)], [(4, 178)], [(4, 197)], [(4, 206)], [(4, 219)], [(4, 238)], [(5, 9)], [(5, 10)], [(5, 20)], [(5, 42)], [(5, 43)], [(5, 51)], [(5, 59)], [(5, 77)], [(5, 123)], [(5, 145)], [(5, 167)], [(5, 175)], [(5, 209)], [(5, 217)], [(5, 234)]]
def lk_9 : List (Nat × Nat × Nat × Nat) := [(11, 3, 0, 0), (50, 9, 10, 0), (3, 0, 9, 0), (17, 0, 9, 1), (21, 0, 9, 2), (24, 0, 9, 3), (129, 0, 9, 4), (132, 0, 9, 5), (142, 0, 9, 6), (151, 0, 9, 7), (154, 0, 9, 8), (175, 0, 9, 9), (178, 0, 9, 10), (27, 0, 9, 11), (30, 0, 9, 12), (211, 0, 9, 13), (231, 0, 9, 14), (234, 0, 9, 15), (228, 0, 9, 16), (240, 0, 9, 17), (251, 0, 9, 18), (221, 0, 9, 19), (34, 0, 9, 20), (37, 0, 9, 21), (40, 0, 9, 22), (44, 0, 9, 23), (437, 0, 9, 24), (47, 0, 9, 25), (440, 0, 9, 26), (214, 1, 150, 0), (7, 1, 151, 0), (218, 1, 152, 0), (56, 1, 154, 0), (256, 1, 156, 0), (237, 1, 157, 0), (243, 9, 97, 0), (245, 9, 122, 0), (247, 9, 48, 0), (249, 9, 57, 0), (254, 12, 0, 0), (339, 1, 158, 0), (281, 7, 0, 0), (295, 1, 159, 0), (277, 1, 160, 0), (224, 1, 161, 0), (259, 1, 327, 0), (264, 1, 329, 0), (268, 1, 162, 0), (274, 1, 163, 0), (299, 1, 164, 0), (271, 1, 165, 0), (283, 7, 1, 0), (302, 1, 166, 0), (342, 1, 167, 0), (285, 7, 2, 0), (333, 1, 168, 0), (67, 1, 169, 0), (305, 1, 170, 0), (309, 1, 171, 0), (60, 1, 172, 0), (165, 1, 173, 0), (73, 1, 174, 0), (77, 1, 175, 0), (52, 1, 176, 0), (63, 1, 177, 0), (81, 1, 178, 0), (70, 1, 179, 0), (312, 1, 180, 0), (287, 7, 3, 0), (336, 1, 181, 0), (316, 1, 182, 0), (289, 7, 4, 0), (291, 7, 5, 0), (293, 7, 6, 0), (319, 1, 183, 0), (323, 1, 184, 0), (326, 1, 185, 0), (329, 1, 186, 0), (107, 1, 187, 0), (345, 1, 188, 0), (348, 9, 6, 0), (350, 1, 193, 0), (84, 1, 194, 0), (353, 1, 195, 0), (356, 1, 197, 0), (359, 9, 7, 0), (361, 1, 198, 0), (365, 9, 2, 0), (367, 1, 203, 0), (184, 1, 204, 0), (157, 1, 205, 0), (161, 1, 207, 0), (370, 1, 208, 0), (373, 1, 212, 0), (376, 9, 3, 0), (378, 1, 213, 0), (135, 13, 0, 0), (381, 9, 4, 0), (383, 1, 215, 0), (387, 1, 216, 0), (92, 1, 217, 0), (181, 1, 220, 0), (87, 14, 0, 0), (145, 1, 223, 0), (126, 1, 224, 0), (138, 9, 60, 1), (140, 9, 60, 0), (392, 1, 226, 0), (390, 9, 100, 0), (104, 1, 227, 0), (101, 1, 228, 0), (395, 1, 231, 0), (205, 1, 232, 0), (198, 1, 233, 0), (192, 1, 234, 0), (195, 1, 235, 0), (188, 1, 236, 0), (111, 1, 237, 0), (115, 1, 238, 0), (168, 1, 239, 0), (148, 1, 240, 0), (119, 1, 241, 0), (95, 9, 40, 0), (97, 16, 0, 0), (172, 1, 242, 0), (123, 1, 243, 0), (208, 1, 244, 0), (201, 1, 245, 0), (403, 1, 249, 0), (398, 9, 50, 0), (406, 1, 250, 0), (400, 1, 251, 0), (410, 1, 254, 0), (413, 10, 13830554455654793216, 0), (415, 9, 600, 0), (421, 1, 265, 0), (417, 1, 266, 0), (424, 9, 20, 0), (426, 9, 2, 1), (428, 1, 271, 0), (431, 1, 272, 0), (434, 1, 277, 0), (443, 1, 282, 0), (446, 1, 284, 0), (449, 1, 285, 0), (452, 1, 287, 0)]
def lp_9 : List (List (Nat × Nat)) := [[(6, 14)], [(6, 15)], [(6, 16)], [(6, 17)], [(6, 18)], [(6, 19)], [(6, 20)], [(6, 21)], [(6, 22)], [(6, 23)], [(6, 24)], [(6, 25)], [(6, 26)], [(6, 27)], [(6, 28)], [(6, 29)], [(6, 30)], [(6, 31)], [(6, 32)], [(6, 33)], [(6, 34)], [(6, 35)], [(6, 36)], [(6, 37)], [(6, 38)], [(6, 39)], [(6, 40)], [(6, 41)], [(6, 42)], [(6, 103)], [(6, 107)], [(6, 111)], [(6, 119)], [(6, 126)], [(6, 130)], [(6, 134)], [(6, 135)], [(6, 136)], [(6, 137)], [(6, 138)], [(6, 139)], [], [(6, 144)], [(6, 148)], [(6, 152)], [(6, 156)], [(6, 157)], [(6, 158)], [(6, 162)], [(6, 166)], [(6, 170)], [], [(6, 175)], [(6, 179)], [], [(6, 184)], [(6, 188)], [(6, 192)], [(6, 196)], [(6, 200)], [(6, 204)], [(6, 208)], [(6, 212)], [(6, 216)], [(6, 220)], [(6, 224)], [(6, 228)], [(6, 232)], [], [(6, 237)], [(7, 1)], [], [], [], [(7, 8)], [(7, 11)], [(7, 15)], [(7, 19)], [(7, 23)], [(7, 27)], [(7, 43)], [(7, 48)], [(7, 52)], [(7, 56)], [(7, 64)], [(7, 68)], [(7, 69)], [(7, 81)], [(7, 90)], [(7, 94)], [(7, 98)], [(7, 105)], [(7, 108)], [(7, 124)], [(7, 128)], [(7, 129)], [(7, 133)], [(7, 138)], [(7, 139)], [(7, 143)], [(7, 147)], [(7, 159)], [(7, 163)], [(7, 174)], [(7, 178)], [(7, 181)], [(7, 182)], [(7, 187)], [(7, 190)], [(7, 191)], [(7, 194)], [(7, 205)], [(7, 209)], [(7, 213)], [(7, 217)], [(7, 221)], [(7, 225)], [(7, 229)], [(7, 233)], [(7, 237)], [(8, 1)], [(8, 5)], [(8, 9)], [(8, 10)], [(8, 13)], [(8, 17)], [(8, 21)], [(8, 25)], [(8, 41)], [(8, 44)], [(8, 45)], [(8, 49)], [(8, 61)], [(8, 93)], [(8, 98)], [(8, 107)], [(8, 111)], [(8, 119)], [(8, 124)], [(8, 133)], [(8, 137)], [(8, 156)], [(8, 175)], [(8, 183)], [(8, 187)], [(8, 195)]]
def lk_10 : List (Nat × Nat × Nat × Nat) := [(8, 5, 8, 0), (143, 1, 82, 0), (160, 1, 83, 0), (164, 1, 84, 0), (168, 1, 85, 0), (172, 1, 86, 0), (216, 1, 87, 0), (220, 1, 88, 0), (235, 1, 89, 0), (239, 1, 91, 0), (261, 1, 92, 0), (269, 1, 93, 0), (278, 1, 94, 0), (307, 1, 95, 0), (324, 1, 96, 0), (328, 1, 97, 0), (332, 1, 98, 0), (336, 1, 99, 0), (147, 1, 289, 0), (13, 6, 0, 0), (7, 1, 101, 0), (156, 1, 290, 0), (19, 6, 1, 0), (15, 1, 103, 0), (176, 1, 291, 0), (21, 1, 105, 0), (180, 1, 292, 0), (29, 6, 2, 0), (25, 1, 106, 0), (184, 1, 293, 0), (31, 1, 108, 0), (187, 1, 294, 0), (34, 1, 110, 0), (190, 1, 295, 0), (37, 1, 112, 0), (194, 1, 296, 0), (44, 6, 3, 0), (41, 1, 113, 0), (197, 1, 297, 0), (46, 1, 114, 0), (201, 1, 298, 0), (50, 1, 115, 0), (204, 1, 299, 0), (53, 1, 116, 0), (207, 1, 300, 0), (56, 1, 117, 0), (210, 1, 301, 0), (59, 1, 119, 0), (213, 1, 302, 0), (63, 1, 120, 0), (225, 1, 303, 0), (66, 1, 121, 0), (229, 1, 304, 0), (70, 1, 122, 0), (232, 1, 305, 0), (73, 1, 123, 0), (243, 1, 306, 0), (76, 1, 124, 0), (246, 1, 307, 0), (79, 1, 125, 0), (249, 1, 308, 0), (82, 1, 127, 0), (252, 1, 309, 0), (85, 1, 128, 0), (255, 1, 310, 0), (88, 1, 129, 0), (258, 1, 311, 0), (91, 1, 130, 0), (265, 1, 312, 0), (94, 1, 131, 0), (274, 1, 313, 0), (98, 1, 132, 0), (282, 1, 314, 0), (102, 1, 133, 0), (285, 1, 315, 0), (105, 1, 134, 0), (288, 1, 316, 0), (108, 1, 135, 0), (291, 1, 317, 0), (111, 1, 136, 0), (294, 1, 318, 0), (114, 1, 137, 0), (297, 1, 319, 0), (117, 1, 138, 0), (301, 1, 320, 0), (121, 1, 139, 0), (304, 1, 321, 0), (124, 1, 140, 0), (311, 1, 322, 0), (127, 1, 141, 0), (314, 1, 323, 0), (130, 1, 142, 0), (317, 1, 324, 0), (133, 1, 144, 0), (320, 1, 325, 0), (136, 1, 145, 0), (340, 1, 326, 0), (140, 1, 146, 0), (153, 1, 147, 0), (144, 5, 9, 0), (146, 1, 148, 0), (152, 1, 149, 0), (159, 1, 153, 0), (163, 1, 155, 0), (167, 1, 189, 0), (171, 1, 190, 0), (175, 1, 191, 0), (179, 1, 192, 0), (183, 1, 196, 0), (186, 1, 199, 0), (189, 1, 200, 0), (193, 1, 201, 0), (196, 1, 202, 0), (200, 1, 206, 0), (203, 1, 209, 0), (206, 1, 210, 0), (209, 1, 211, 0), (212, 1, 214, 0), (215, 1, 218, 0), (219, 1, 219, 0), (224, 1, 221, 0), (228, 1, 222, 0), (231, 1, 225, 0), (234, 1, 229, 0), (238, 1, 230, 0), (242, 1, 246, 0), (245, 1, 247, 0), (248, 1, 248, 0), (251, 1, 252, 0), (254, 1, 253, 0), (257, 1, 255, 0), (260, 1, 256, 0), (264, 1, 257, 0), (268, 1, 258, 0), (273, 1, 259, 0), (277, 1, 260, 0), (281, 1, 261, 0), (284, 1, 262, 0), (287, 1, 263, 0), (290, 1, 264, 0), (293, 1, 267, 0), (296, 1, 268, 0), (300, 1, 269, 0), (303, 1, 270, 0), (306, 1, 273, 0), (310, 1, 274, 0), (313, 1, 275, 0), (316, 1, 276, 0), (319, 1, 278, 0), (323, 1, 279, 0), (327, 1, 280, 0), (331, 1, 281, 0), (335, 1, 283, 0), (339, 1, 286, 0), (342, 1, 288, 0)]
def lp_10 : List (List (Nat × Nat)) := [[(1, 24)], [(1, 26)], [(2, 115)], [(3, 75)], [(3, 79)], [(3, 83)], [(3, 89)], [(3, 97)], [(3, 101)], [(3, 162)], [(3, 190)], [(3, 198)], [(3, 202)], [(3, 211)], [(3, 224)], [(3, 228)], [(4, 3)], [(4, 11)], [(4, 24)], [(4, 27)], [(4, 28)], [(4, 100)], [(4, 103)], [(4, 104)], [(4, 126)], [(4, 129)], [(4, 133)], [(4, 136)], [(4, 137)], [(4, 160)], [(4, 163)], [(4, 171)], [(4, 174)], [(4, 182)], [(4, 185)], [(4, 189)], [(4, 192)], [(4, 193)], [(4, 212)], [(4, 215)], [(4, 224)], [(4, 227)], [(4, 231)], [(4, 234)], [(5, 2)], [(5, 5)], [(5, 13)], [(5, 16)], [(5, 28)], [(5, 31)], [(5, 35)], [(5, 38)], [(5, 44)], [(5, 47)], [(5, 52)], [(5, 55)], [(5, 63)], [(5, 66)], [(5, 70)], [(5, 73)], [(5, 81)], [(5, 84)], [(5, 88)], [(5, 91)], [(5, 95)], [(5, 98)], [(5, 102)], [(5, 105)], [(5, 109)], [(5, 112)], [(5, 116)], [(5, 119)], [(5, 124)], [(5, 127)], [(5, 131)], [(5, 134)], [(5, 138)], [(5, 141)], [(5, 146)], [(5, 149)], [(5, 153)], [(5, 156)], [(5, 160)], [(5, 163)], [(5, 168)], [(5, 171)], [(5, 195)], [(5, 198)], [(5, 202)], [(5, 205)], [(5, 210)], [(5, 213)], [(5, 220)], [(5, 223)], [(5, 227)], [(5, 230)], [(5, 238)], [(6, 1)], [(6, 5)], [(6, 9)], [(6, 11)], [(6, 99)], [(6, 115)], [(6, 122)], [(7, 31)], [(7, 35)], [(7, 39)], [(7, 44)], [(7, 60)], [(7, 73)], [(7, 77)], [(7, 82)], [(7, 86)], [(7, 101)], [(7, 112)], [(7, 116)], [(7, 120)], [(7, 134)], [(7, 151)], [(7, 155)], [(7, 166)], [(7, 170)], [(7, 183)], [(7, 197)], [(7, 201)], [(8, 29)], [(8, 33)], [(8, 37)], [(8, 53)], [(8, 57)], [(8, 65)], [(8, 69)], [(8, 73)], [(8, 77)], [(8, 81)], [(8, 85)], [(8, 89)], [(8, 94)], [(8, 99)], [(8, 103)], [(8, 115)], [(8, 120)], [(8, 125)], [(8, 129)], [(8, 140)], [(8, 144)], [(8, 148)], [(8, 152)], [(8, 159)], [(8, 163)], [(8, 167)], [(8, 171)], [(8, 179)], [(8, 191)], [(8, 199)]]
def lk_11 : List (Nat × Nat × Nat × Nat) := [(335, 1, 328, 0), (38, 19, 0, 0), (492, 1, 330, 0), (495, 1, 332, 0), (1053, 20, 0, 0), (1059, 1, 333, 0), (9, 17, 0, 0), (15, 18, 0, 0)]
def lp_11 : List (List (Nat × Nat)) := [[(2, 151)], [(2, 155)], [(2, 161)], [(2, 165)], [(2, 171)], [(2, 173)], [(8, 221)], [(8, 222)]]
def lk_12 : List (Nat × Nat × Nat × Nat) := [(9, 1, 331, 0)]
def lp_12 : List (List (Nat × Nat)) := [[(2, 168)]]
def lk_13 : List (Nat × Nat × Nat × Nat) := []
def lp_13 : List (List (Nat × Nat)) := []
def lk (own : Nat) : List (Nat × Nat × Nat × Nat) := match own with
  | 0 => lk_0
  | 1 => lk_1
  | 2 => lk_2
  | 3 => lk_3
  | 4 => lk_4
  | 5 => lk_5
  | 6 => lk_6
  | 7 => lk_7
  | 8 => lk_8
  | 9 => lk_9
  | 10 => lk_10
  | 11 => lk_11
  | 12 => lk_12
  | 13 => lk_13
  | _ => []
def zX (a : Nat) : String := match a with
  | 0 => "java/lang/IllegalStateException"
  | 1 => "java/lang/IllegalArgumentException"
  | 2 => "java/lang/IndexOutOfBoundsException"
  | _ => "java/util/NoSuchElementException"
def lkI (a b : Nat) : Int64 := if b = 1 then - Int64.ofNat a else Int64.ofNat a
def nmFloorMod : MethodName := ⟨"java/lang/Math", "floorMod", "(II)I"⟩
def lWs (own : Nat) (e : Nat × Nat × Nat × Nat) : List Cond := match e.2.1 with
  | 0 => [.fieldLink (zC own) e.1 (zC e.2.2.1) (zT e.2.2.1 e.2.2.2).2.1 (zT e.2.2.1 e.2.2.2).2.2.1]
  | 1 => [.methodLink (zC own) e.1 (mLn e.2.2.1).1]
  | 3 => [.methodLink (zC own) e.1 Lib.objectInit]
  | 4 => [.methodLink (zC own) e.1 ⟨zX e.2.2.1, "<init>", "()V"⟩]
  | 5 => [.classLink (zC own) e.1 (zC e.2.2.1)]
  | 6 => [.classLink (zC own) e.1 (zX e.2.2.1)]
  | 8 => [.constant (zC own) e.1 (Int32.ofNat e.2.2.1)]
  | 9 => [.constantLong (zC own) e.1 (lkI e.2.2.1 e.2.2.2)]
  | 10 => [.constantDouble (zC own) e.1 (UInt64.ofNat e.2.2.1)]
  | 11 => [.methodLink (zC own) e.1 arraycopyName]
  | 12 => [.methodLink (zC own) e.1 Lib.Math.min.name]
  | 13 => [.methodLink (zC own) e.1 Lib.Math.max.name]
  | 14 => [.methodLink (zC own) e.1 Lib.Math.abs.name]
  | 15 => [.methodLink (zC own) e.1 nmFloorMod]
  | 16 => [.methodLink (zC own) e.1 Lib.MathLoose.min_long.x]
  | 17 => [.fieldLink (zC own) e.1 "java/lang/String" "value" "[B"]
  | 18 => [.fieldLink (zC own) e.1 "java/lang/String" "coder" "B"]
  | 19 => [.fieldLink (zC own) e.1 "java/lang/String" "COMPACT_STRINGS" "Z"]
  | 20 => [.fieldLink (zC own) e.1 "jdk/internal/util/Preconditions" "SIOOBE_FORMATTER" "Ljava/util/function/BiFunction;"]
  | _ => []
/-- a link's class or method is one that the tables have; a final field is its own class's -/
def lSg (own : Nat) (e : Nat × Nat × Nat × Nat) : Bool := match e.2.1 with
  | 0 => decide (e.2.2.1 < 10) && decide (e.2.2.2 < zN e.2.2.1)
  | 1 => decide (e.2.2.1 < 334)
  | 2 => decide (e.2.2.1 < 334)
  | 5 => decide (e.2.2.1 < 10)
  | 6 => decide (e.2.2.1 < 4)
  | 7 => decide (e.2.2.1 < 7)
  | _ => true
def lCk (own : Nat) : List (Nat × Nat × Nat × Nat) → List (List (Nat × Nat)) → Bool
  | [], _ => true
  | _ :: _, [] => false
  | e :: es, p :: ps => chkW (lWs own e) p && lSg own e && lCk own es ps
theorem lCk_ok (own : Nat) : ∀ (es : List (Nat × Nat × Nat × Nat)) (ps : List (List (Nat × Nat))), lCk own es ps = true → ∀ e ∈ es, (∀ w ∈ lWs own e, w ∈ ALLW) ∧ lSg own e = true
  | [], _, _ => fun _ h => by cases h
  | _ :: _, [], h => by simp [lCk] at h
  | e :: es, p :: ps, h => by
    simp only [lCk, Bool.and_eq_true] at h
    intro x hx
    rcases List.mem_cons.mp hx with rfl | hx
    · exact ⟨chkW_ok _ _ h.1.1, h.1.2⟩
    · exact lCk_ok own es ps h.2 x hx
set_option maxRecDepth 100000 in
theorem lk_0_ok : ∀ e ∈ lk_0, (∀ w ∈ lWs 0 e, w ∈ ALLW) ∧ lSg 0 e = true := lCk_ok _ _ lp_0 (by decide +kernel)
set_option maxRecDepth 100000 in
theorem lk_1_ok : ∀ e ∈ lk_1, (∀ w ∈ lWs 1 e, w ∈ ALLW) ∧ lSg 1 e = true := lCk_ok _ _ lp_1 (by decide +kernel)
set_option maxRecDepth 100000 in
theorem lk_2_ok : ∀ e ∈ lk_2, (∀ w ∈ lWs 2 e, w ∈ ALLW) ∧ lSg 2 e = true := lCk_ok _ _ lp_2 (by decide +kernel)
set_option maxRecDepth 100000 in
theorem lk_3_ok : ∀ e ∈ lk_3, (∀ w ∈ lWs 3 e, w ∈ ALLW) ∧ lSg 3 e = true := lCk_ok _ _ lp_3 (by decide +kernel)
set_option maxRecDepth 100000 in
theorem lk_4_ok : ∀ e ∈ lk_4, (∀ w ∈ lWs 4 e, w ∈ ALLW) ∧ lSg 4 e = true := lCk_ok _ _ lp_4 (by decide +kernel)
set_option maxRecDepth 100000 in
theorem lk_5_ok : ∀ e ∈ lk_5, (∀ w ∈ lWs 5 e, w ∈ ALLW) ∧ lSg 5 e = true := lCk_ok _ _ lp_5 (by decide +kernel)
set_option maxRecDepth 100000 in
theorem lk_6_ok : ∀ e ∈ lk_6, (∀ w ∈ lWs 6 e, w ∈ ALLW) ∧ lSg 6 e = true := lCk_ok _ _ lp_6 (by decide +kernel)
set_option maxRecDepth 100000 in
theorem lk_7_ok : ∀ e ∈ lk_7, (∀ w ∈ lWs 7 e, w ∈ ALLW) ∧ lSg 7 e = true := lCk_ok _ _ lp_7 (by decide +kernel)
set_option maxRecDepth 100000 in
theorem lk_8_ok : ∀ e ∈ lk_8, (∀ w ∈ lWs 8 e, w ∈ ALLW) ∧ lSg 8 e = true := lCk_ok _ _ lp_8 (by decide +kernel)
set_option maxRecDepth 100000 in
theorem lk_9_ok : ∀ e ∈ lk_9, (∀ w ∈ lWs 9 e, w ∈ ALLW) ∧ lSg 9 e = true := lCk_ok _ _ lp_9 (by decide +kernel)
set_option maxRecDepth 100000 in
theorem lk_10_ok : ∀ e ∈ lk_10, (∀ w ∈ lWs 10 e, w ∈ ALLW) ∧ lSg 10 e = true := lCk_ok _ _ lp_10 (by decide +kernel)
set_option maxRecDepth 100000 in
theorem lk_11_ok : ∀ e ∈ lk_11, (∀ w ∈ lWs 11 e, w ∈ ALLW) ∧ lSg 11 e = true := lCk_ok _ _ lp_11 (by decide +kernel)
set_option maxRecDepth 100000 in
theorem lk_12_ok : ∀ e ∈ lk_12, (∀ w ∈ lWs 12 e, w ∈ ALLW) ∧ lSg 12 e = true := lCk_ok _ _ lp_12 (by decide +kernel)
set_option maxRecDepth 100000 in
theorem lk_13_ok : ∀ e ∈ lk_13, (∀ w ∈ lWs 13 e, w ∈ ALLW) ∧ lSg 13 e = true := lCk_ok _ _ lp_13 (by decide +kernel)
theorem lk_ok : ∀ (own : Nat), ∀ e ∈ lk own, (∀ w ∈ lWs own e, w ∈ ALLW) ∧ lSg own e = true := by
  intro own e h
  match own, h with
  | 0, h => exact lk_0_ok e h
  | 1, h => exact lk_1_ok e h
  | 2, h => exact lk_2_ok e h
  | 3, h => exact lk_3_ok e h
  | 4, h => exact lk_4_ok e h
  | 5, h => exact lk_5_ok e h
  | 6, h => exact lk_6_ok e h
  | 7, h => exact lk_7_ok e h
  | 8, h => exact lk_8_ok e h
  | 9, h => exact lk_9_ok e h
  | 10, h => exact lk_10_ok e h
  | 11, h => exact lk_11_ok e h
  | 12, h => exact lk_12_ok e h
  | 13, h => exact lk_13_ok e h
  | n + 14, h => cases h
def lkq (own idx : Nat) : Option (Nat × Nat × Nat) := ((lk own).find? (fun e => e.1 == idx)).map (fun e => e.2)
theorem lkq_ok {own idx : Nat} {e : Nat × Nat × Nat} (h : lkq own idx = some e) : (∀ w ∈ lWs own (idx, e), w ∈ ALLW) ∧ lSg own (idx, e) = true := by
  unfold lkq at h
  cases hf : (lk own).find? (fun e => e.1 == idx) with
  | none => rw [hf] at h; cases h
  | some x =>
    rw [hf] at h
    have hx : x.2 = e := Option.some.inj h
    have h1 : x.1 = idx := by simpa using List.find?_some hf
    have h2 := lk_ok own x (List.mem_of_find?_eq_some hf)
    have h3 : x = (idx, e) := by rw [← hx, ← h1]
    rw [h3] at h2
    exact h2
end
section
/-! THE INTERPRETER: the claim's own code over an abstract heap. An object is its number; a value .ref k is object k, .retAddr 0 any reference. -/
abbrev Lo : Type := List (Option Value)
/-- objects, slots that they take, throws; kind and length of each object; its references, ints, longs, doubles -/
abbrev St : Type := (Nat × Nat × Nat) × (Nat → Nat × Nat) × (Nat → Nat → Nat) × (Nat → Nat → Int32) × (Nat → Nat → Int64) × (Nat → Nat → UInt64)
abbrev Rs : Type := Option Value ⊕ Nat
abbrev Cf : Type := Nat × Lo × List Value × St
abbrev Act : Type := Cf ⊕ ((Rs × St) ⊕ (Nat × List Value × List Value))
def zn (σ : St) : Nat := σ.1.1
def zs (σ : St) : Nat := σ.1.2.1
def zt (σ : St) : Nat := σ.1.2.2
def zh (σ : St) : Nat → Nat × Nat := σ.2.1
def zR (σ : St) : Nat → Nat → Nat := σ.2.2.1
def zI (σ : St) : Nat → Nat → Int32 := σ.2.2.2.1
def zL (σ : St) : Nat → Nat → Int64 := σ.2.2.2.2.1
def zD (σ : St) : Nat → Nat → UInt64 := σ.2.2.2.2.2
def up2 {α : Type} (f : Nat → Nat → α) (a k : Nat) (v : α) : Nat → Nat → α := fun b j => if b = a ∧ j = k then v else f b j
def wR (σ : St) (a k v : Nat) : St := (σ.1, σ.2.1, up2 (zR σ) a k v, zI σ, zL σ, zD σ)
def wI (σ : St) (a k : Nat) (v : Int32) : St := (σ.1, σ.2.1, zR σ, up2 (zI σ) a k v, zL σ, zD σ)
def wL (σ : St) (a k : Nat) (v : Int64) : St := (σ.1, σ.2.1, zR σ, zI σ, up2 (zL σ) a k v, zD σ)
def wD (σ : St) (a k : Nat) (v : UInt64) : St := (σ.1, σ.2.1, zR σ, zI σ, zL σ, up2 (zD σ) a k v)
def up1 {α : Type} (f : Nat → α) (k : Nat) (v : α) : Nat → α := fun j => if j = k then v else f j
/-- a new object of a kind, of so many slots -/
def zNew (σ : St) (kd : Nat × Nat) (n : Nat) : St := ((zn σ + 1, zs σ + n, zt σ), up1 (zh σ) (zn σ) kd, zR σ, zI σ, zL σ, zD σ)
/-- ints copied from object s to object d -/
def zCpy (σ : St) (s d sp dp n : Nat) : St := (σ.1, σ.2.1, zR σ, (fun b j => if b = d then va_cpy (zI σ s) (zI σ d) sp dp n j else zI σ b j), zL σ, zD σ)
def zThrow (σ : St) : St := ((zn σ, zs σ, zt σ + 1), σ.2)
def mOw (mi : Nat) : Nat := (mLn mi).2.2.2.2.1
def mCd (mi : Nat) : ByteArray := (mLn mi).2.1
def mMx (mi : Nat) : Nat := (mLn mi).2.2.1
def mRt (mi : Nat) : Option FieldType := (mLn mi).2.2.2.1
def mKd (mi : Nat) : Nat := (mLn mi).2.2.2.2.2.1
def mAr (mi : Nat) : Nat := (mLn mi).2.2.2.2.2.2.1
def mHn (mi : Nat) : List (Nat × Nat × Nat × Nat) := (mLn mi).2.2.2.2.2.2.2
def kill (x : Option Value) : Option Value := match x with
  | some (.long _) => none
  | some (.double _) => none
  | y => y
def lset1 : Lo → Nat → Value → Lo
  | [], _, _ => []
  | _ :: l, 0, v => some v :: l
  | x :: l, 1, v => kill x :: lset1 l 0 v
  | x :: l, i + 2, v => x :: lset1 l (i + 1) v
def lset2 (l : Lo) (i : Nat) (v : Value) : Lo := (lset1 l i v).set (i + 1) none
/-- what a local of this sort holds: 0 int, 1 long, 2 float, 3 double, 4 reference -/
def zk (v : Value) : Nat := match v with
  | .int _ => 0
  | .long _ => 1
  | .float _ => 2
  | .double _ => 3
  | _ => 4
def nx (pc : Nat) (lo : Lo) (st : List Value) (σ : St) : Option Act := some (.inl (pc, lo, st, σ))
def zld (k i pc : Nat) (lo : Lo) (st : List Value) (σ : St) : Option Act := match lo[i]? with
  | some (some v) => if zk v = k then nx pc lo (v :: st) σ else none
  | _ => none
def zst (k i pc : Nat) (lo : Lo) (st : List Value) (σ : St) : Option Act := match st with
  | v :: st => if zk v = k ∧ i < lo.length then nx pc (lset1 lo i v) st σ else none
  | [] => none
def zst2 (k i pc : Nat) (lo : Lo) (st : List Value) (σ : St) : Option Act := match st with
  | v :: st => if zk v = k ∧ i + 1 < lo.length then nx pc (lset2 lo i v) st σ else none
  | [] => none
/-- the field's sort: 0 int or boolean, 1 long, 2 reference -/
def fso (ty : FieldType) : Nat := match ty with
  | .int => 0
  | .boolean => 0
  | .long => 1
  | _ => 2
def rv (n : Nat) : Value := match n with
  | 0 => .null
  | k + 1 => .ref k
def gvl (σ : St) (ci k a : Nat) : Value := match fso (zTY ci k) with
  | 0 => .int (zI σ a k)
  | 1 => .long (zL σ a k)
  | _ => rv (zR σ a k)
def okv (ty : FieldType) (v : Value) : Bool := decide (narrow ty v = v) && fits ty v
def pvl (σ : St) (ci k a : Nat) (v : Value) : Option St := match fso (zTY ci k), v with
  | 0, .int x => some (wI σ a k x)
  | 1, .long x => some (wL σ a k x)
  | 2, .ref b => some (wR σ a k (b + 1))
  | 2, .null => some (wR σ a k 0)
  | _, _ => none
def inx (i : Int32) (n : Nat) : Bool := decide (0 ≤ i) && decide (i.toNatClampNeg < n)
def cB (c : ClassFile.Cond) (x y : Int32) : Bool := match c with
  | .eq => decide (x = y)
  | .ne => decide (¬ x = y)
  | .lt => decide (x < y)
  | .ge => decide (y ≤ x)
  | .gt => decide (y < x)
  | .le => decide (x ≤ y)
/-- where a jump goes -/
def tgo (pc : Nat) (off : Int) (lo : Lo) (st : List Value) (σ : St) : Option Act := if 0 ≤ (pc : Int) + off then nx ((pc : Int) + off).toNat lo st σ else none
/-- where a branch goes -/
def tbr (pc : Nat) (off : Int) (b : Bool) (lo : Lo) (st : List Value) (σ : St) : Option Act := if 0 ≤ (pc : Int) + off then nx (if b = true then ((pc : Int) + off).toNat else pc + 3) lo st σ else none
def arK (t : ArrayType) : Nat := match t with
  | .int => 11
  | .long => 12
  | .byte => 13
  | .boolean => 14
  | .double => 15
  | _ => 0
/-- the class of an array's elements: of the kinds 16, 17, 18 -/
def elC (k : Nat) : Nat := match k with
  | 16 => 0
  | 17 => 1
  | _ => 4
def cats (st : List Value) : Nat := (st.map fun v => v.category).sum
def entA : List Value → Lo
  | [] => []
  | v :: vs => if v.category = 2 then some v :: none :: entA vs else some v :: entA vs
def ent (mi : Nat) (as : List Value) : Lo := entA as ++ List.replicate (mMx mi - (entA as).length) none
/-- what a receiver must be: an object of the method's class -/
def rcv (σ : St) (mi : Nat) (v : Value) : Bool := match v with
  | .ref a => if mOw mi < 10 then decide (zh σ a = (mOw mi + 1, 0)) else decide (mOw mi = 11 ∧ (zh σ a).1 = 20)
  | _ => false
/-- a call of method mi with so many words of the stack -/
def zcall (kd mi : Nat) (st : List Value) (σ : St) : Option Act :=
  if mKd mi = kd ∧ mAr mi + (if kd = 0 then 0 else 1) ≤ st.length ∧ cats (st.drop (mAr mi + (if kd = 0 then 0 else 1))) ≤ 8 ∧ (entA (st.take (mAr mi + (if kd = 0 then 0 else 1))).reverse).length ≤ mMx mi
  then (match kd, (st.take (mAr mi + (if kd = 0 then 0 else 1))).reverse with
    | 0, as => some (.inr (.inr (mi, as, st.drop (mAr mi + 0))))
    | _, v :: as => if kd = 1 then (if rcv σ mi v = true then some (.inr (.inr (mi, v :: as, st.drop (mAr mi + 1)))) else none) else (match v with
      | .ref a => if (zh σ a).1 ≠ 0 then some (.inr (.inr (mi, v :: as, st.drop (mAr mi + 1)))) else none
      | _ => none)
    | _, [] => none)
  else none
def covs (q : Nat × Nat × Nat × Nat) (pc : Nat) : Bool := decide (q.1 ≤ pc) && decide (pc < q.2.1)
/-- where exception E is taken -/
def hnd (own : Nat) (hs : List (Nat × Nat × Nat × Nat)) (pc E : Nat) : Option Nat := match hs with
  | [] => none
  | q :: hs => if covs q pc = true ∧ lkq own q.2.2.2 = some (6, E, 0) then some q.2.2.1 else hnd own hs pc E
/-- 'throw new E()' -/
def zthrow (mi pc E : Nat) (st : List Value) (σ : St) : Option Act :=
  match decode (mCd mi) (pc + 3), decode (mCd mi) (pc + 4), decode (mCd mi) (pc + 7) with
  | .ok (.dup, 1), .ok (.invokespecial ic, 3), .ok (.athrow, 1) => if mOw mi = 8 ∧ lkq 8 ic = some (4, E, 0) ∧ mHn mi = [] ∧ cats st ≤ 8 then some (.inr (.inl (.inr E, zThrow σ))) else none
  | _, _, _ => none
def ilen (i : Instr) : Nat := match i with
  | .aload _ | .astore _ | .bipush _ | .dload _ | .dstore _ | .fload _ | .fstore _ | .iload _ | .istore _ | .lload _ | .lstore _ | .ldc _ | .newarray _ => 2
  | .anewarray _ | .getfield _ | .getstatic _ | .goto _ | .if_icmp _ _ | .ifCond _ _ | .ifnonnull _ | .ifnull _ | .iinc _ _ | .invokespecial _ | .invokestatic _ | .invokevirtual _ | .ldc_w _ | .ldc2_w _ | .new _ | .putfield _ | .sipush _ => 3
  | _ => 1
def zins (mi pc : Nat) (lo : Lo) (st : List Value) (σ : St) (i : Instr) : Option Act := match i with
  | .aload k => zld 4 k (pc + 2) lo st σ
  | .aload_n k => zld 4 k (pc + 1) lo st σ
  | .iload k => zld 0 k (pc + 2) lo st σ
  | .iload_n k => zld 0 k (pc + 1) lo st σ
  | .lload k => zld 1 k (pc + 2) lo st σ
  | .lload_n k => zld 1 k (pc + 1) lo st σ
  | .fload k => zld 2 k (pc + 2) lo st σ
  | .dload k => zld 3 k (pc + 2) lo st σ
  | .astore k => zst 4 k (pc + 2) lo st σ
  | .astore_n k => zst 4 k (pc + 1) lo st σ
  | .istore k => zst 0 k (pc + 2) lo st σ
  | .istore_n k => zst 0 k (pc + 1) lo st σ
  | .fstore k => zst 2 k (pc + 2) lo st σ
  | .lstore k => zst2 1 k (pc + 2) lo st σ
  | .lstore_n k => zst2 1 k (pc + 1) lo st σ
  | .dstore k => zst2 3 k (pc + 2) lo st σ
  | .iinc k n => (match lo[k]? with
    | some (some (.int x)) => nx (pc + 3) (lset1 lo k (.int (x + Int32.ofInt n))) st σ
    | _ => none)
  | .iconst n => nx (pc + 1) lo (.int (Int32.ofInt n) :: st) σ
  | .lconst n => nx (pc + 1) lo (.long (Int64.ofNat (n : Nat)) :: st) σ
  | .fconst n => if n = 0 then nx (pc + 1) lo (.float FP.fconst0 :: st) σ else none
  | .dconst n => if n = 0 then nx (pc + 1) lo (.double FP.dconst0 :: st) σ else none
  | .bipush n => nx (pc + 2) lo (.int (Int8.ofInt n).toInt32 :: st) σ
  | .sipush n => nx (pc + 3) lo (.int (Int16.ofInt n).toInt32 :: st) σ
  | .aconst_null => nx (pc + 1) lo (.null :: st) σ
  | .iadd => (match st with | .int y :: .int x :: st => nx (pc + 1) lo (.int (x + y) :: st) σ | _ => none)
  | .isub => (match st with | .int y :: .int x :: st => nx (pc + 1) lo (.int (x - y) :: st) σ | _ => none)
  | .imul => (match st with | .int y :: .int x :: st => nx (pc + 1) lo (.int (x * y) :: st) σ | _ => none)
  | .iand => (match st with | .int y :: .int x :: st => nx (pc + 1) lo (.int (x &&& y) :: st) σ | _ => none)
  | .ior => (match st with | .int y :: .int x :: st => nx (pc + 1) lo (.int (x ||| y) :: st) σ | _ => none)
  | .ixor => (match st with | .int y :: .int x :: st => nx (pc + 1) lo (.int (x ^^^ y) :: st) σ | _ => none)
  | .ishl => (match st with | .int y :: .int x :: st => nx (pc + 1) lo (.int (x <<< (y &&& 31)) :: st) σ | _ => none)
  | .ishr => (match st with | .int y :: .int x :: st => nx (pc + 1) lo (.int (x >>> (y &&& 31)) :: st) σ | _ => none)
  | .idiv => (match st with | .int y :: .int x :: st => if y = 0 then none else nx (pc + 1) lo (.int (x / y) :: st) σ | _ => none)
  | .irem => (match st with | .int y :: .int x :: st => if y = 0 then none else nx (pc + 1) lo (.int (x - x / y * y) :: st) σ | _ => none)
  | .ineg => (match st with | .int x :: st => nx (pc + 1) lo (.int (-x) :: st) σ | _ => none)
  | .ladd => (match st with | .long y :: .long x :: st => nx (pc + 1) lo (.long (x + y) :: st) σ | _ => none)
  | .lsub => (match st with | .long y :: .long x :: st => nx (pc + 1) lo (.long (x - y) :: st) σ | _ => none)
  | .lcmp => (match st with | .long y :: .long x :: st => nx (pc + 1) lo (.int (lg_cmp x y) :: st) σ | _ => none)
  | .i2l => (match st with | .int x :: st => nx (pc + 1) lo (.long x.toInt64 :: st) σ | _ => none)
  | .l2i => (match st with | .long x :: st => nx (pc + 1) lo (.int x.toInt32 :: st) σ | _ => none)
  | .i2b => (match st with | .int x :: st => nx (pc + 1) lo (.int x.toInt8.toInt32 :: st) σ | _ => none)
  | .i2c => (match st with | .int x :: st => nx (pc + 1) lo (.int (x.toUInt32 % 65536).toInt32 :: st) σ | _ => none)
  | .i2d => (match st with | .int x :: st => nx (pc + 1) lo (.double (FP.i2d x) :: st) σ | _ => none)
  | .i2f => (match st with | .int x :: st => nx (pc + 1) lo (.float (FP.i2f x) :: st) σ | _ => none)
  | .l2f => (match st with | .long x :: st => nx (pc + 1) lo (.float (FP.l2f x) :: st) σ | _ => none)
  | .f2d => (match st with | .float x :: st => if FP.f2d x &&& 0x7fffffffffffffff ≤ 0x7ff0000000000000 then nx (pc + 1) lo (.double (FP.f2d x) :: st) σ else none | _ => none)
  | .fdiv => (match st with | .float y :: .float x :: st => if FP.fdiv x y &&& 0x7fffffff ≤ 0x7f800000 then nx (pc + 1) lo (.float (FP.fdiv x y) :: st) σ else none | _ => none)
  | .ddiv => (match st with | .double y :: .double x :: st => if FP.ddiv x y &&& 0x7fffffffffffffff ≤ 0x7ff0000000000000 then nx (pc + 1) lo (.double (FP.ddiv x y) :: st) σ else none | _ => none)
  | .fcmp op => (match st with | .float y :: .float x :: st => nx (pc + 1) lo (.int (Op.cmpValue (FP.fcmp x y) op) :: st) σ | _ => none)
  | .dcmp op => (match st with | .double y :: .double x :: st => nx (pc + 1) lo (.int (Op.cmpValue (FP.dcmp x y) op) :: st) σ | _ => none)
  | .dup => (match st with | v :: st => if v.category = 1 then nx (pc + 1) lo (v :: v :: st) σ else none | _ => none)
  | .dup2 => (match st with | v :: w :: st => if v.category = 1 ∧ w.category = 1 then nx (pc + 1) lo (v :: w :: v :: w :: st) σ else none | _ => none)
  | .pop => (match st with | v :: st => if v.category = 1 then nx (pc + 1) lo st σ else none | _ => none)
  | .goto off => tgo pc off lo st σ
  | .ifCond c off => (match st with | .int x :: st => tbr pc off (cB c x 0) lo st σ | _ => none)
  | .if_icmp c off => (match st with | .int y :: .int x :: st => tbr pc off (cB c x y) lo st σ | _ => none)
  | .ifnull off => (match st with | .null :: st => tgo pc off lo st σ | .ref _ :: st => nx (pc + 3) lo st σ | _ => none)
  | .ifnonnull off => (match st with | .ref _ :: st => tgo pc off lo st σ | .null :: st => nx (pc + 3) lo st σ | _ => none)
  | .tableswitch dflt low hi offs => (match st with
    | .int x :: st => if x.toInt < low ∨ hi < x.toInt then tgo pc dflt lo st σ else (match offs[(x.toInt - low).toNat]? with | some off => tgo pc off lo st σ | none => none)
    | _ => none)
  | .ldc idx => (match lkq (mOw mi) idx with
    | some (7, j, _) => nx (pc + 2) lo (.ref (1 + j) :: st) σ
    | some (8, v, _) => nx (pc + 2) lo (.int (Int32.ofNat v) :: st) σ
    | _ => none)
  | .ldc_w idx => (match lkq (mOw mi) idx with
    | some (7, j, _) => nx (pc + 3) lo (.ref (1 + j) :: st) σ
    | _ => none)
  | .ldc2_w idx => (match lkq (mOw mi) idx with
    | some (9, a, b) => nx (pc + 3) lo (.long (lkI a b) :: st) σ
    | some (10, a, _) => nx (pc + 3) lo (.double (UInt64.ofNat a) :: st) σ
    | _ => none)
  | .getfield idx => (match st with
    | .ref a :: st => (match lkq (mOw mi) idx with
      | some (0, ci, k) => if zh σ a = (ci + 1, 0) then nx (pc + 3) lo (gvl σ ci k a :: st) σ else none
      | some (17, _, _) => if (zh σ a).1 = 20 then nx (pc + 3) lo (.ref (a + 7) :: st) σ else none
      | some (18, _, _) => if (zh σ a).1 = 20 then nx (pc + 3) lo (.int 0 :: st) σ else none
      | _ => none)
    | _ => none)
  | .putfield idx => (match st with
    | v :: .ref a :: st => (match lkq (mOw mi) idx with
      | some (0, ci, k) => if zh σ a = (ci + 1, 0) ∧ okv (zTY ci k) v = true ∧ ((zT ci k).2.2.2 = true → mKd mi = 2 ∧ mOw mi = ci) then (match pvl σ ci k a v with | some σ' => nx (pc + 3) lo st σ' | none => none) else none
      | _ => none)
    | _ => none)
  | .getstatic idx => (match lkq (mOw mi) idx with
    | some (19, _, _) => nx (pc + 3) lo (.int 1 :: st) σ
    | some (20, _, _) => nx (pc + 3) lo (.retAddr 0 :: st) σ
    | _ => none)
  | .iaload => (match st with | .int i :: .ref a :: st => if ((zh σ a).1 = 11 ∨ (zh σ a).1 = 19) ∧ inx i (zh σ a).2 = true then nx (pc + 1) lo (.int (zI σ a i.toNatClampNeg) :: st) σ else none | _ => none)
  | .laload => (match st with | .int i :: .ref a :: st => if (zh σ a).1 = 12 ∧ inx i (zh σ a).2 = true then nx (pc + 1) lo (.long (zL σ a i.toNatClampNeg) :: st) σ else none | _ => none)
  | .baload => (match st with | .int i :: .ref a :: st => if ((zh σ a).1 = 13 ∨ (zh σ a).1 = 14 ∨ (zh σ a).1 = 21) ∧ inx i (zh σ a).2 = true then nx (pc + 1) lo (.int (zI σ a i.toNatClampNeg) :: st) σ else none | _ => none)
  | .daload => (match st with | .int i :: .ref a :: st => if (zh σ a).1 = 15 ∧ inx i (zh σ a).2 = true then nx (pc + 1) lo (.double (zD σ a i.toNatClampNeg) :: st) σ else none | _ => none)
  | .aaload => (match st with | .int i :: .ref a :: st => if ((zh σ a).1 = 16 ∨ (zh σ a).1 = 17 ∨ (zh σ a).1 = 18) ∧ inx i (zh σ a).2 = true then nx (pc + 1) lo (rv (zR σ a i.toNatClampNeg) :: st) σ else none | _ => none)
  | .iastore => (match st with | .int x :: .int i :: .ref a :: st => if (zh σ a).1 = 11 ∧ inx i (zh σ a).2 = true then nx (pc + 1) lo st (wI σ a i.toNatClampNeg x) else none | _ => none)
  | .lastore => (match st with | .long x :: .int i :: .ref a :: st => if (zh σ a).1 = 12 ∧ inx i (zh σ a).2 = true then nx (pc + 1) lo st (wL σ a i.toNatClampNeg x) else none | _ => none)
  | .bastore => (match st with | .int x :: .int i :: .ref a :: st => if inx i (zh σ a).2 = true then (if (zh σ a).1 = 13 then nx (pc + 1) lo st (wI σ a i.toNatClampNeg (vp_nar .byte x)) else if (zh σ a).1 = 14 then nx (pc + 1) lo st (wI σ a i.toNatClampNeg (vp_nar .boolean x)) else none) else none | _ => none)
  | .dastore => (match st with | .double x :: .int i :: .ref a :: st => if (zh σ a).1 = 15 ∧ inx i (zh σ a).2 = true then nx (pc + 1) lo st (wD σ a i.toNatClampNeg x) else none | _ => none)
  | .aastore => (match st with | .ref v :: .int i :: .ref a :: st => if ((zh σ a).1 = 16 ∨ (zh σ a).1 = 17 ∨ (zh σ a).1 = 18) ∧ inx i (zh σ a).2 = true ∧ zh σ v = (elC (zh σ a).1 + 1, 0) then nx (pc + 1) lo st (wR σ a i.toNatClampNeg (v + 1)) else none | _ => none)
  | .arraylength => (match st with | .ref a :: st => if (11 ≤ (zh σ a).1 ∧ (zh σ a).1 ≤ 19) ∨ (zh σ a).1 = 21 then nx (pc + 1) lo (.int (Int32.ofNat (zh σ a).2) :: st) σ else none | _ => none)
  | .newarray t => (match st with | .int n :: st => if 0 ≤ n ∧ n.toNatClampNeg ≤ 4000 ∧ arK t ≠ 0 then nx (pc + 2) lo (.ref (zn σ) :: st) (zNew σ (arK t, n.toNatClampNeg) n.toNatClampNeg) else none | _ => none)
  | .anewarray idx => (match st with
    | .int n :: st => (match lkq (mOw mi) idx with
      | some (5, ci, _) => if 0 ≤ n ∧ n.toNatClampNeg ≤ 4000 ∧ (ci = 0 ∨ ci = 1 ∨ ci = 4) then nx (pc + 3) lo (.ref (zn σ) :: st) (zNew σ ((if ci = 0 then 16 else if ci = 1 then 17 else 18), n.toNatClampNeg) n.toNatClampNeg) else none
      | _ => none)
    | _ => none)
  | .new idx => (match lkq (mOw mi) idx with
    | some (5, ci, _) => nx (pc + 3) lo (.ref (zn σ) :: st) (zNew σ (ci + 1, 0) (zN ci))
    | some (6, E, _) => zthrow mi pc E st σ
    | _ => none)
  | .ireturn => (match st, mRt mi with | [.int x], some ty => if narrow ty (.int x) = .int x ∧ fso ty = 0 ∨ (narrow ty (.int x) = .int x ∧ (ty = .byte ∨ ty = .char)) then some (.inr (.inl (.inl (some (.int x)), σ))) else none | _, _ => none)
  | .lreturn => (match st, mRt mi with | [.long x], some .long => some (.inr (.inl (.inl (some (.long x)), σ))) | _, _ => none)
  | .freturn => (match st, mRt mi with | [.float x], some .float => some (.inr (.inl (.inl (some (.float x)), σ))) | _, _ => none)
  | .dreturn => (match st, mRt mi with | [.double x], some .double => some (.inr (.inl (.inl (some (.double x)), σ))) | _, _ => none)
  | .areturn => (match st, mRt mi with | [.ref a], some (.object _) => some (.inr (.inl (.inl (some (.ref a)), σ))) | [.null], some (.object _) => some (.inr (.inl (.inl (some .null), σ))) | _, _ => none)
  | .return_ => (match st, mRt mi with | [], none => some (.inr (.inl (.inl none, σ))) | _, _ => none)
  | .invokevirtual idx => (match lkq (mOw mi) idx with | some (1, y, _) => zcall 1 y st σ | _ => none)
  | .invokespecial idx => (match lkq (mOw mi) idx with
    | some (1, y, _) => zcall 2 y st σ
    | some (2, y, _) => zcall 2 y st σ
    | some (3, _, _) => (match st with | .ref a :: st => if (zh σ a).1 ≠ 0 ∧ cats st ≤ 8 then nx (pc + 3) lo st σ else none | _ => none)
    | _ => none)
  | .invokestatic idx => (match lkq (mOw mi) idx with
    | some (1, y, _) => zcall 0 y st σ
    | some (11, _, _) => (match st with
      | .int n :: .int dp :: .ref d :: .int sp :: .ref s :: st => if (zh σ s).1 = 11 ∧ (zh σ d).1 = 11 ∧ 0 ≤ n ∧ 0 ≤ sp ∧ 0 ≤ dp ∧ sp.toNatClampNeg + n.toNatClampNeg ≤ (zh σ s).2 ∧ dp.toNatClampNeg + n.toNatClampNeg ≤ (zh σ d).2 ∧ s ≠ d ∧ cats st ≤ 8
        then nx (pc + 3) lo st (zCpy σ s d sp.toNatClampNeg dp.toNatClampNeg n.toNatClampNeg) else none
      | _ => none)
    | some (12, _, _) => (match st with | .int y :: .int x :: st => if cats st ≤ 8 then nx (pc + 3) lo (.int (if y < x then y else x) :: st) σ else none | _ => none)
    | some (13, _, _) => (match st with | .int y :: .int x :: st => if cats st ≤ 8 then nx (pc + 3) lo (.int (if x < y then y else x) :: st) σ else none | _ => none)
    | some (14, _, _) => (match st with | .int x :: st => if cats st ≤ 8 then nx (pc + 3) lo (.int (if 0 ≤ x then x else 0 - x) :: st) σ else none | _ => none)
    | some (15, _, _) => (match st with | .int y :: .int x :: st => if y ≠ 0 ∧ cats st ≤ 8 then nx (pc + 3) lo (.int (if (x ^^^ y) < 0 then (if x - x / y * y = 0 then x - x / y * y else x - x / y * y + y) else x - x / y * y) :: st) σ else none | _ => none)
    | some (16, _, _) => (match st with | .long y :: .long x :: st => if cats st ≤ 8 then nx (pc + 3) lo (.long (if y < x then y else x) :: st) σ else none | _ => none)
    | _ => none)
  | _ => none
def stp (mi pc : Nat) (lo : Lo) (st : List Value) (σ : St) : Option Act := match decode (mCd mi) pc with
  | .ok (i, len) => (match i with
    | .tableswitch a b c d => zins mi pc lo st σ (.tableswitch a b c d)
    | i => if len = ilen i then zins mi pc lo st σ i else none)
  | _ => none
def run : Nat → Nat → Nat → Nat → Lo → List Value → St → Option (Rs × St)
  | 0, _, _, _, _, _, _ => none
  | n + 1, d, mi, pc, lo, st, σ => match stp mi pc lo st σ with
    | none => none
    | some (.inl (pc', lo', st', σ')) => run n d mi pc' lo' st' σ'
    | some (.inr (.inl r)) => some r
    | some (.inr (.inr (y, as, st'))) => match d with
      | 0 => none
      | d' + 1 => match run n d' y 0 (ent y as) [] σ with
        | none => none
        | some (.inl v, σ') => run n (d' + 1) mi (pc + 3) lo (v.toList ++ st') σ'
        | some (.inr E, σ') => match hnd (mOw mi) (mHn mi) pc E with
          | some h => run n (d' + 1) mi h lo [.retAddr 0] σ'
          | none => some (.inr E, σ')
theorem run_mono : ∀ (n d mi pc : Nat) (lo : Lo) (st : List Value) (σ : St) (r : Rs × St), run n d mi pc lo st σ = some r → run (n + 1) d mi pc lo st σ = some r := by
  intro n
  induction n with
  | zero => intro d mi pc lo st σ r h; simp [run] at h
  | succ n ih =>
    intro d mi pc lo st σ r h
    rw [run] at h ⊢
    match hs : stp mi pc lo st σ with
    | none => rw [hs] at h; cases h
    | some (.inl (pc', lo', st', σ')) => rw [hs] at h; exact ih _ _ _ _ _ _ _ h
    | some (.inr (.inl q)) => rw [hs] at h; exact h
    | some (.inr (.inr (y, as, st'))) =>
      rw [hs] at h
      match d, h with
      | 0, h => cases h
      | d' + 1, h =>
        dsimp only at h ⊢
        match hc : run n d' y 0 (ent y as) [] σ with
        | none => rw [hc] at h; cases h
        | some (.inl v, σ') =>
          rw [hc] at h
          rw [ih _ _ _ _ _ _ _ hc]
          exact ih _ _ _ _ _ _ _ h
        | some (.inr E, σ') =>
          rw [hc] at h
          rw [ih _ _ _ _ _ _ _ hc]
          dsimp only at h ⊢
          match hh : hnd (mOw mi) (mHn mi) pc E with
          | none => rw [hh] at h; exact h
          | some q => rw [hh] at h; exact ih _ _ _ _ _ _ _ h
end
section
/-! THE WORLD behind the abstract heap: values, locals, cells; what is known of a state -/
def vr (n : Nat) (ad : Nat → Nat) (a c : Value) : Prop := match a with
  | .ref k => k < n ∧ c = .ref (ad k)
  | .retAddr _ => c = .null ∨ ∃ q : Nat, c = .ref q
  | v => c = v
theorem vr_cat {n : Nat} {ad : Nat → Nat} {a c : Value} (h : vr n ad a c) : c.category = a.category := by
  cases a with
  | ref k => rw [h.2]; rfl
  | retAddr k => rcases h with h | ⟨q, h⟩ <;> (rw [h]; rfl)
  | int x => rw [show c = _ from h]
  | long x => rw [show c = _ from h]
  | float x => rw [show c = _ from h]
  | double x => rw [show c = _ from h]
  | null => rw [show c = _ from h]
theorem vr_mono {n n' : Nat} {ad ad' : Nat → Nat} {a c : Value} (h1 : ∀ k, k < n → ad' k = ad k) (h2 : n ≤ n') (h : vr n ad a c) : vr n' ad' a c := by
  cases a with
  | ref k => exact ⟨Nat.lt_of_lt_of_le h.1 h2, by rw [h1 k h.1]; exact h.2⟩
  | _ => exact h
def vrs (n : Nat) (ad : Nat → Nat) : List Value → List Value → Prop
  | [], [] => True
  | a :: as, c :: cs => vr n ad a c ∧ vrs n ad as cs
  | _, _ => False
theorem vrs_nil {n : Nat} {ad : Nat → Nat} {cs : List Value} (h : vrs n ad [] cs) : cs = [] := by
  cases cs with
  | nil => rfl
  | cons c cs => exact h.elim
theorem vrs_cons {n : Nat} {ad : Nat → Nat} {a : Value} {as cs : List Value} (h : vrs n ad (a :: as) cs) : ∃ c cs', cs = c :: cs' ∧ vr n ad a c ∧ vrs n ad as cs' := by
  cases cs with
  | nil => exact h.elim
  | cons c cs => exact ⟨c, cs, rfl, h.1, h.2⟩
theorem vrs_int {n : Nat} {ad : Nat → Nat} {x : Int32} {as cs : List Value} (h : vrs n ad (.int x :: as) cs) : ∃ cs', cs = .int x :: cs' ∧ vrs n ad as cs' := by
  obtain ⟨c, cs', rfl, h1, h2⟩ := vrs_cons h
  exact ⟨cs', by rw [show c = _ from h1], h2⟩
theorem vrs_long {n : Nat} {ad : Nat → Nat} {x : Int64} {as cs : List Value} (h : vrs n ad (.long x :: as) cs) : ∃ cs', cs = .long x :: cs' ∧ vrs n ad as cs' := by
  obtain ⟨c, cs', rfl, h1, h2⟩ := vrs_cons h
  exact ⟨cs', by rw [show c = _ from h1], h2⟩
theorem vrs_float {n : Nat} {ad : Nat → Nat} {x : UInt32} {as cs : List Value} (h : vrs n ad (.float x :: as) cs) : ∃ cs', cs = .float x :: cs' ∧ vrs n ad as cs' := by
  obtain ⟨c, cs', rfl, h1, h2⟩ := vrs_cons h
  exact ⟨cs', by rw [show c = _ from h1], h2⟩
theorem vrs_double {n : Nat} {ad : Nat → Nat} {x : UInt64} {as cs : List Value} (h : vrs n ad (.double x :: as) cs) : ∃ cs', cs = .double x :: cs' ∧ vrs n ad as cs' := by
  obtain ⟨c, cs', rfl, h1, h2⟩ := vrs_cons h
  exact ⟨cs', by rw [show c = _ from h1], h2⟩
theorem vrs_null {n : Nat} {ad : Nat → Nat} {as cs : List Value} (h : vrs n ad (.null :: as) cs) : ∃ cs', cs = .null :: cs' ∧ vrs n ad as cs' := by
  obtain ⟨c, cs', rfl, h1, h2⟩ := vrs_cons h
  exact ⟨cs', by rw [show c = _ from h1], h2⟩
theorem vrs_ref {n : Nat} {ad : Nat → Nat} {k : Nat} {as cs : List Value} (h : vrs n ad (.ref k :: as) cs) : k < n ∧ ∃ cs', cs = .ref (ad k) :: cs' ∧ vrs n ad as cs' := by
  obtain ⟨c, cs', rfl, h1, h2⟩ := vrs_cons h
  exact ⟨h1.1, cs', by rw [h1.2], h2⟩
theorem vrs_len {n : Nat} {ad : Nat → Nat} : ∀ {as cs : List Value}, vrs n ad as cs → cs.length = as.length
  | [], cs, h => by rw [vrs_nil h]
  | a :: as, cs, h => by
    obtain ⟨c, cs', rfl, -, h2⟩ := vrs_cons h
    simp [vrs_len h2]
theorem vrs_cats {n : Nat} {ad : Nat → Nat} : ∀ {as cs : List Value}, vrs n ad as cs → cats cs = cats as
  | [], cs, h => by rw [vrs_nil h]
  | a :: as, cs, h => by
    obtain ⟨c, cs', rfl, h1, h2⟩ := vrs_cons h
    have := vrs_cats h2
    simp only [cats, List.map_cons, List.sum_cons] at this ⊢
    rw [this, vr_cat h1]
theorem vrs_take {n : Nat} {ad : Nat → Nat} : ∀ {as cs : List Value} (k : Nat), vrs n ad as cs → vrs n ad (as.take k) (cs.take k)
  | _, _, 0, _ => by simp [vrs]
  | [], cs, k + 1, h => by rw [vrs_nil h]; simp [vrs]
  | a :: as, cs, k + 1, h => by
    obtain ⟨c, cs', rfl, h1, h2⟩ := vrs_cons h
    exact ⟨h1, vrs_take k h2⟩
theorem vrs_drop {n : Nat} {ad : Nat → Nat} : ∀ {as cs : List Value} (k : Nat), vrs n ad as cs → vrs n ad (as.drop k) (cs.drop k)
  | _, _, 0, h => by simpa using h
  | [], cs, k + 1, h => by rw [vrs_nil h]; simp [vrs]
  | a :: as, cs, k + 1, h => by
    obtain ⟨c, cs', rfl, h1, h2⟩ := vrs_cons h
    simpa using vrs_drop k h2
theorem vrs_app {n : Nat} {ad : Nat → Nat} {bs ds : List Value} (hb : vrs n ad bs ds) : ∀ {as cs : List Value}, vrs n ad as cs → vrs n ad (as ++ bs) (cs ++ ds)
  | [], cs, h => by rw [vrs_nil h]; exact hb
  | a :: as, cs, h => by
    obtain ⟨c, cs', rfl, h1, h2⟩ := vrs_cons h
    exact ⟨h1, vrs_app hb h2⟩
theorem vrs_rev {n : Nat} {ad : Nat → Nat} : ∀ {as cs : List Value}, vrs n ad as cs → vrs n ad as.reverse cs.reverse
  | [], cs, h => by rw [vrs_nil h]; simp [vrs]
  | a :: as, cs, h => by
    obtain ⟨c, cs', rfl, h1, h2⟩ := vrs_cons h
    rw [List.reverse_cons, List.reverse_cons]
    exact vrs_app (show vrs n ad [a] [c] from ⟨h1, trivial⟩) (vrs_rev h2)
theorem vrs_mono {n n' : Nat} {ad ad' : Nat → Nat} (h1 : ∀ k, k < n → ad' k = ad k) (h2 : n ≤ n') : ∀ {as cs : List Value}, vrs n ad as cs → vrs n' ad' as cs
  | [], cs, h => by rw [vrs_nil h]; simp [vrs]
  | a :: as, cs, h => by
    obtain ⟨c, cs', rfl, g1, g2⟩ := vrs_cons h
    exact ⟨vr_mono h1 h2 g1, vrs_mono h1 h2 g2⟩
/-! locals -/
def lcs (n : Nat) (ad : Nat → Nat) (lo : Lo) (lv : List (Nat × Value)) : Prop := ∀ (i : Nat) (v : Value), lo[i]? = some (some v) → ∃ c, (i, c) ∈ lv ∧ vr n ad v c
def LR (n : Nat) (ad : Nat → Nat) (lo : Lo) (ls : Array Slot) (nL : Nat) : Prop := lo.length = nL ∧ ∃ lv, lv_has ls nL lv ∧ lcs n ad lo lv
theorem LR.mono {n n' : Nat} {ad ad' : Nat → Nat} {lo : Lo} {ls : Array Slot} {nL : Nat} (h1 : ∀ k, k < n → ad' k = ad k) (h2 : n ≤ n') (h : LR n ad lo ls nL) : LR n' ad' lo ls nL := by
  obtain ⟨g1, lv, g2, g3⟩ := h
  refine ⟨g1, lv, g2, fun i v hv => ?_⟩
  obtain ⟨c, q1, q2⟩ := g3 i v hv
  exact ⟨c, q1, vr_mono h1 h2 q2⟩
theorem LR.at {n : Nat} {ad : Nat → Nat} {lo : Lo} {ls : Array Slot} {nL i : Nat} {v : Value} (h : LR n ad lo ls nL) (hv : lo[i]? = some (some v)) : ∃ c, ls[i]? = some (.val c) ∧ vr n ad v c := by
  obtain ⟨-, lv, h1, h2⟩ := h
  obtain ⟨c, q1, q2⟩ := h2 i v hv
  exact ⟨c, h1.2.2 _ q1, q2⟩
theorem LR.size {n : Nat} {ad : Nat → Nat} {lo : Lo} {ls : Array Slot} {nL : Nat} (h : LR n ad lo ls nL) : ls.size = nL := by
  obtain ⟨-, lv, h1, -⟩ := h
  exact h1.1
theorem lset1_len : ∀ (l : Lo) (i : Nat) (v : Value), (lset1 l i v).length = l.length
  | [], _, _ => rfl
  | _ :: _, 0, _ => rfl
  | x :: l, 1, v => by simp [lset1, lset1_len l 0 v]
  | x :: l, i + 2, v => by simp [lset1, lset1_len l (i + 1) v]
theorem kill_some {x : Option Value} {w : Value} (h : kill x = some w) : x = some w ∧ w.category ≠ 2 := by
  cases x with
  | none => cases h
  | some v =>
    cases v <;> simp only [kill] at h
    all_goals first | cases h; done | (cases h; exact ⟨rfl, by decide⟩) | (cases h)
    all_goals exact ⟨rfl, by simp [Value.category]⟩
theorem lset1_at : ∀ (l : Lo) (i : Nat) (v : Value) (j : Nat) (w : Value), (lset1 l i v)[j]? = some (some w) → (j = i ∧ w = v) ∨ (j ≠ i ∧ l[j]? = some (some w) ∧ (j + 1 = i → w.category ≠ 2))
  | [], _, _, j, w, h => by simp [lset1] at h
  | _ :: l, 0, v, j, w, h => by
    cases j with
    | zero => simp [lset1] at h; exact Or.inl ⟨rfl, h.symm⟩
    | succ j => simp [lset1] at h; exact Or.inr ⟨by omega, by simpa using h, by omega⟩
  | x :: l, 1, v, j, w, h => by
    cases j with
    | zero =>
      simp [lset1] at h
      have := kill_some h
      exact Or.inr ⟨by omega, by simp [this.1], fun _ => this.2⟩
    | succ j =>
      simp [lset1] at h
      rcases lset1_at l 0 v j w h with ⟨h1, h2⟩ | ⟨h1, h2, h3⟩
      · exact Or.inl ⟨by omega, h2⟩
      · exact Or.inr ⟨by omega, by simpa using h2, by omega⟩
  | x :: l, i + 2, v, j, w, h => by
    cases j with
    | zero => simp [lset1] at h; exact Or.inr ⟨by omega, by simp [h], by omega⟩
    | succ j =>
      simp [lset1] at h
      rcases lset1_at l (i + 1) v j w h with ⟨h1, h2⟩ | ⟨h1, h2, h3⟩
      · exact Or.inl ⟨by omega, h2⟩
      · exact Or.inr ⟨by omega, by simpa using h2, fun z => h3 (by omega)⟩
theorem lcs_set1 {n : Nat} {ad : Nat → Nat} {lo : Lo} {lv : List (Nat × Value)} {i : Nat} {v c : Value} (h : lcs n ad lo lv) (hv : vr n ad v c) :
    lcs n ad (lset1 lo i v) ((i, c) :: lv.filter (fun q => !(q.1 == i) && !(q.1 + 1 == i && q.2.category == 2))) := by
  intro j w hw
  rcases lset1_at lo i v j w hw with ⟨rfl, rfl⟩ | ⟨h1, h2, h3⟩
  · exact ⟨c, List.mem_cons_self, hv⟩
  · obtain ⟨d, q1, q2⟩ := h j w h2
    refine ⟨d, List.mem_cons_of_mem _ (List.mem_filter.mpr ⟨q1, ?_⟩), q2⟩
    have : ¬ (j + 1 = i ∧ d.category = 2) := fun z => h3 z.1 (by rw [← vr_cat q2]; exact z.2)
    simp only [Bool.and_eq_true, Bool.not_eq_true', beq_eq_false_iff_ne, ne_eq, h1, not_false_eq_true, true_and, Bool.and_eq_false_imp, beq_iff_eq]
    exact fun z y => this ⟨z, y⟩
theorem lcs_set2 {n : Nat} {ad : Nat → Nat} {lo : Lo} {lv : List (Nat × Value)} {i : Nat} {v c : Value} (h : lcs n ad lo lv) (hv : vr n ad v c) :
    lcs n ad (lset2 lo i v) ((i, c) :: lv.filter (fun q => !(q.1 == i) && (!(q.1 == i + 1) && !(q.1 + 1 == i && q.2.category == 2)))) := by
  intro j w hw
  unfold lset2 at hw
  have hji : j ≠ i + 1 := by
    intro z
    subst z
    rw [List.getElem?_set] at hw
    split at hw <;> simp_all
  rw [List.getElem?_set_ne (Ne.symm hji)] at hw
  rcases lset1_at lo i v j w hw with ⟨rfl, rfl⟩ | ⟨h1, h2, h3⟩
  · exact ⟨c, List.mem_cons_self, hv⟩
  · obtain ⟨d, q1, q2⟩ := h j w h2
    refine ⟨d, List.mem_cons_of_mem _ (List.mem_filter.mpr ⟨q1, ?_⟩), q2⟩
    have : ¬ (j + 1 = i ∧ d.category = 2) := fun z => h3 z.1 (by rw [← vr_cat q2]; exact z.2)
    simp only [Bool.and_eq_true, Bool.not_eq_true', beq_eq_false_iff_ne, ne_eq, h1, hji, not_false_eq_true, true_and, Bool.and_eq_false_imp, beq_iff_eq]
    exact fun z y => this ⟨z, y⟩
theorem lset2_len (l : Lo) (i : Nat) (v : Value) : (lset2 l i v).length = l.length := by
  unfold lset2
  rw [List.length_set, lset1_len]
theorem entA_len {n : Nat} {ad : Nat → Nat} : ∀ {as cs : List Value}, vrs n ad as cs → (lg_sl cs).length = (entA as).length
  | [], cs, h => by rw [vrs_nil h]; rfl
  | a :: as, cs, h => by
    obtain ⟨c, cs', rfl, h1, h2⟩ := vrs_cons h
    have := entA_len h2
    have hc := vr_cat h1
    rw [show lg_sl (c :: cs') = (if c.category = 2 then [.val c, .second] else [.val c]) ++ lg_sl cs' from rfl, List.length_append, hc, this, show entA (a :: as) = (if a.category = 2 then some a :: none :: entA as else some a :: entA as) from rfl]
    by_cases h9 : a.category = 2
    · rw [if_pos h9, if_pos h9]; simp only [List.length_cons, List.length_nil]; omega
    · rw [if_neg h9, if_neg h9]; simp only [List.length_cons, List.length_nil]; omega
theorem entA_lcs {n : Nat} {ad : Nat → Nat} : ∀ {as cs : List Value} (off : Nat), vrs n ad as cs → ∀ (i : Nat) (v : Value), (entA as)[i]? = some (some v) → ∃ c, (off + i, c) ∈ lv_args off cs ∧ vr n ad v c
  | [], cs, off, h, i, v, hv => by simp [entA] at hv
  | a :: as, cs, off, h, i, v, hv => by
    obtain ⟨c, cs', rfl, h1, h2⟩ := vrs_cons h
    have hc := vr_cat h1
    simp only [entA] at hv
    simp only [lv_args]
    rw [hc]
    by_cases h9 : a.category = 2
    · rw [if_pos h9] at hv ⊢
      match i, hv with
      | 0, hv => simp at hv; subst hv; exact ⟨c, List.mem_cons_self, h1⟩
      | 1, hv => simp at hv
      | j + 2, hv =>
        simp at hv
        obtain ⟨d, q1, q2⟩ := entA_lcs (off + 2) h2 j v hv
        exact ⟨d, List.mem_cons_of_mem _ (by rw [show off + (j + 2) = off + 2 + j by omega]; exact q1), q2⟩
    · rw [if_neg h9] at hv ⊢
      match i, hv with
      | 0, hv => simp at hv; subst hv; exact ⟨c, List.mem_cons_self, h1⟩
      | j + 1, hv =>
        simp at hv
        obtain ⟨d, q1, q2⟩ := entA_lcs (off + 1) h2 j v hv
        exact ⟨d, List.mem_cons_of_mem _ (by rw [show off + (j + 1) = off + 1 + j by omega]; exact q1), q2⟩
theorem LR_entry {n : Nat} {ad : Nat → Nat} {mi : Nat} {as cs : List Value} (h : vrs n ad as cs) (hl : (entA as).length ≤ mMx mi) :
    LR n ad (ent mi as) ((lg_sl cs ++ List.replicate (mMx mi - (lg_sl cs).length) Slot.unset).toArray) (mMx mi) := by
  refine ⟨?_, lv_args 0 cs, lv_entry cs (by rw [entA_len h]; exact hl), fun i v hv => ?_⟩
  · unfold ent
    rw [List.length_append, List.length_replicate]
    omega
  · unfold ent at hv
    by_cases hi : i < (entA as).length
    · rw [List.getElem?_append_left hi] at hv
      have := entA_lcs 0 h i v hv
      simpa using this
    · rw [List.getElem?_append_right (by omega), List.getElem?_replicate] at hv
      split at hv <;> simp at hv
/-! cells -/
def rf (ad : Nat → Nat) (n : Nat) : Option Nat := match n with
  | 0 => none
  | k + 1 => some (ad k)
def fvl (ad : Nat → Nat) (σ : St) (ci k a : Nat) : Value := match fso (zTY ci k) with
  | 0 => .int (zI σ a k)
  | 1 => .long (zL σ a k)
  | _ => va_rf (rf ad (zR σ a k))
def cel (cid : Nat → ClassId) (ad : Nat → Nat) (σ : St) (a : Nat) : va_E :=
  if (zh σ a).1 = 12 then .inl (cid 12, (zh σ a).2, .inr (.inl (zL σ a)))
  else if (zh σ a).1 = 15 then .inl (cid 15, (zh σ a).2, .inr (.inr (.inr (.inl (zD σ a)))))
  else if (zh σ a).1 = 16 ∨ (zh σ a).1 = 17 ∨ (zh σ a).1 = 18 then .inl (cid (zh σ a).1, (zh σ a).2, .inr (.inr (.inr (.inr (fun j => rf ad (zR σ a j))))))
  else if (zh σ a).1 = 11 ∨ (zh σ a).1 = 13 ∨ (zh σ a).1 = 14 then .inl (cid (zh σ a).1, (zh σ a).2, .inl (zI σ a))
  else .inr ((zh σ a).1 - 1, (List.range (zN ((zh σ a).1 - 1))).map (fun j => fvl ad σ ((zh σ a).1 - 1) j a))
def wl (cid : Nat → ClassId) (ad : Nat → Nat) (σ : St) : va_W := (List.range (zn σ - 15)).map (fun j => (ad (j + 15), cel cid ad σ (j + 15)))
theorem wl_at {cid : Nat → ClassId} {ad : Nat → Nat} {σ : St} {a : Nat} (h1 : 15 ≤ a) (h2 : a < zn σ) : (wl cid ad σ)[a - 15]? = some (ad a, cel cid ad σ a) := by
  unfold wl
  rw [List.getElem?_map, List.getElem?_range (by omega)]
  simp only [Option.map_some]
  rw [show a - 15 + 15 = a by omega]
def sln : List Nat := [3, 5, 4, 4, 2, 5, 6]
def sby : List (List Int32) := [[98, 111, 120], [115, 116, 101, 97, 108], [112, 111, 115, 116], [98, 97, 108, 108], [97, 116], [115, 112, 101, 101, 100], [119, 101, 105, 103, 104, 116]]
def wf (L : Nat) (xs : Nat → Int32) (σ : St) : Prop :=
  15 ≤ zn σ ∧ (∀ a, zn σ ≤ a → zh σ a = (0, 0) ∧ ∀ j, zR σ a j = 0 ∧ zI σ a j = 0 ∧ zL σ a j = 0 ∧ zD σ a j = 0) ∧
  (zh σ 0 = (19, L) ∧ ∀ j, zI σ 0 j = xs j) ∧ (∀ i, i < 7 → zh σ (1 + i) = (20, 0) ∧ zh σ (8 + i) = (21, sln.getD i 0) ∧ ∀ j, zI σ (8 + i) j = (sby.getD i []).getD j 0) ∧
  (∀ a, 15 ≤ a → (zh σ a).1 ≤ 18) ∧ (∀ a j, zR σ a j ≤ zn σ)
theorem wf.own {L : Nat} {xs : Nat → Int32} {σ : St} (h : wf L xs σ) {a : Nat} (h0 : (zh σ a).1 ≠ 0) (h1 : (zh σ a).1 ≤ 18) : 15 ≤ a ∧ a < zn σ := by
  obtain ⟨g1, g2, ⟨g3, -⟩, g4, -, -⟩ := h
  refine ⟨Nat.not_lt.mp fun q => ?_, Nat.not_le.mp fun q => h0 (by rw [(g2 a q).1])⟩
  rcases Nat.lt_or_ge a 1 with h | h
  · have : a = 0 := by omega
    subst this
    rw [g3] at h1
    omega
  · rcases Nat.lt_or_ge a 8 with h' | h'
    · have := (g4 (a - 1) (by omega)).1
      rw [show 1 + (a - 1) = a by omega] at this
      rw [this] at h1
      omega
    · have := (g4 (a - 8) (by omega)).2.1
      rw [show 8 + (a - 8) = a by omega] at this
      rw [this] at h1
      omega
theorem wf.lt {L : Nat} {xs : Nat → Int32} {σ : St} (h : wf L xs σ) {a : Nat} (h0 : (zh σ a).1 ≠ 0) : a < zn σ := Nat.not_le.mp fun q => h0 (by rw [(h.2.1 a q).1])
theorem cel_i {cid : Nat → ClassId} {ad : Nat → Nat} {σ : St} {a k : Nat} (h : (zh σ a).1 = k) (hk : k = 11 ∨ k = 13 ∨ k = 14) : cel cid ad σ a = .inl (cid k, (zh σ a).2, .inl (zI σ a)) := by
  subst h
  unfold cel
  rw [if_neg (by omega), if_neg (by omega), if_neg (by omega), if_pos hk]
theorem cel_l {cid : Nat → ClassId} {ad : Nat → Nat} {σ : St} {a : Nat} (h : (zh σ a).1 = 12) : cel cid ad σ a = .inl (cid 12, (zh σ a).2, .inr (.inl (zL σ a))) := by
  unfold cel
  rw [if_pos h]
theorem cel_d {cid : Nat → ClassId} {ad : Nat → Nat} {σ : St} {a : Nat} (h : (zh σ a).1 = 15) : cel cid ad σ a = .inl (cid 15, (zh σ a).2, .inr (.inr (.inr (.inl (zD σ a))))) := by
  unfold cel
  rw [if_neg (by omega), if_pos h]
theorem cel_q {cid : Nat → ClassId} {ad : Nat → Nat} {σ : St} {a k : Nat} (h : (zh σ a).1 = k) (hk : k = 16 ∨ k = 17 ∨ k = 18) : cel cid ad σ a = .inl (cid k, (zh σ a).2, .inr (.inr (.inr (.inr (fun j => rf ad (zR σ a j)))))) := by
  subst h
  unfold cel
  rw [if_neg (by omega), if_neg (by omega), if_pos hk]
theorem cel_o {cid : Nat → ClassId} {ad : Nat → Nat} {σ : St} {a ci : Nat} (h : (zh σ a).1 = ci + 1) (hk : ci < 10) : cel cid ad σ a = .inr (ci, (List.range (zN ci)).map (fun j => fvl ad σ ci j a)) := by
  unfold cel
  rw [if_neg (by omega), if_neg (by omega), if_neg (by omega), if_neg (by omega), h, show ci + 1 - 1 = ci by omega]
theorem rf_vr {n : Nat} {ad : Nat → Nat} {q : Nat} (h : q ≤ n) : vr n ad (rv q) (va_rf (rf ad q)) := by
  match q, h with
  | 0, _ => rfl
  | j + 1, h => exact (⟨Nat.lt_of_succ_le h, rfl⟩ : j < n ∧ Value.ref (ad j) = Value.ref (ad j))
theorem gvl_vr {L : Nat} {xs : Nat → Int32} {ad : Nat → Nat} {σ : St} (h : wf L xs σ) (ci k a : Nat) : vr (zn σ) ad (gvl σ ci k a) (fvl ad σ ci k a) := by
  unfold gvl fvl
  generalize fso (zTY ci k) = q
  match q with
  | 0 => rfl
  | 1 => rfl
  | _ + 2 => exact rf_vr (h.2.2.2.2.2 a k)
theorem rv_vr {L : Nat} {xs : Nat → Int32} {ad : Nat → Nat} {σ : St} (h : wf L xs σ) (k a : Nat) : vr (zn σ) ad (rv (zR σ a k)) (va_rf (rf ad (zR σ a k))) := rf_vr (h.2.2.2.2.2 a k)
/-- one object changed, its kind kept -/
theorem wl_set {cid : Nat → ClassId} {ad : Nat → Nat} {σ σ' : St} {a : Nat} (h1 : 15 ≤ a) (hn : zn σ' = zn σ) (ho : ∀ b, b ≠ a → cel cid ad σ' b = cel cid ad σ b) : (wl cid ad σ).set (a - 15) (ad a, cel cid ad σ' a) = wl cid ad σ' := by
  apply List.ext_getElem?
  intro i
  unfold wl
  rw [hn]
  by_cases hi : i = a - 15
  · subst hi
    by_cases hl : a - 15 < zn σ - 15
    · rw [List.getElem?_set_self (by simpa using hl), List.getElem?_map, List.getElem?_range hl]
      simp only [Option.map_some]
      rw [show a - 15 + 15 = a by omega]
    · rw [List.getElem?_eq_none (by simp; omega), List.getElem?_eq_none (by simp; omega)]
  · rw [List.getElem?_set_ne (Ne.symm hi), List.getElem?_map, List.getElem?_map]
    by_cases hl : i < zn σ - 15
    · rw [List.getElem?_range hl]
      simp only [Option.map_some]
      rw [ho _ (by omega)]
    · rw [List.getElem?_eq_none (by simp; omega)]
      rfl
end
section
/-! WHAT IS KNOWN of a state: the tables' facts that last, the things of the start that no method writes -/
def NGW : List Cond := [(Cond.methodLinkNest "LineBalls" (19 : Nat) ({ cls := "LineBalls$Output", name := "<init>", desc := "()V" } : Jvm.MethodName) "LineBalls" : Cond),
  (Cond.arrayOver (Jvm.ClassFile.FieldType.object "LineBalls$Ball") : Cond),
  (Cond.arrayOver (Jvm.ClassFile.FieldType.object "LineBalls$Barrier") : Cond),
  (Cond.methodLinkNest "LineBalls$Line" (27 : Nat) ({ cls := "LineBalls$Barrier", name := "<init>", desc := "()V" } : Jvm.MethodName) "LineBalls" : Cond),
  (Cond.methodLinkNest "LineBalls$Line" (37 : Nat) ({ cls := "LineBalls$Log", name := "<init>", desc := "()V" } : Jvm.MethodName) "LineBalls" : Cond),
  (Cond.methodLinkNest "LineBalls$Line" (44 : Nat) ({ cls := "LineBalls$Book", name := "<init>", desc := "()V" } : Jvm.MethodName) "LineBalls" : Cond),
  (Cond.methodLinkNest "LineBalls$Line" (49 : Nat) ({ cls := "LineBalls$Ball", name := "<init>", desc := "()V" } : Jvm.MethodName) "LineBalls" : Cond),
  (Cond.arrayOver (Jvm.ClassFile.FieldType.object "LineBalls$Line") : Cond),
  (Cond.castable "java/lang/IllegalStateException" "java/lang/IllegalStateException" : Cond),
  (Cond.declares ({ cls := "java/lang/RuntimeException", name := "<init>", desc := "()V" } : Jvm.MethodName) : Cond),
  (Cond.declares ({ cls := "java/lang/RuntimeException", name := "<init>", desc := "(Ljava/lang/String;)V" } : Jvm.MethodName) : Cond),
  (Cond.declares ({ cls := "java/lang/Exception", name := "<init>", desc := "()V" } : Jvm.MethodName) : Cond),
  (Cond.declares ({ cls := "java/lang/Exception", name := "<init>", desc := "(Ljava/lang/String;)V" } : Jvm.MethodName) : Cond),
  (Cond.declares ({ cls := "java/lang/Throwable", name := "<init>", desc := "()V" } : Jvm.MethodName) : Cond),
  (Cond.declares ({ cls := "java/lang/Throwable", name := "<init>", desc := "(Ljava/lang/String;)V" } : Jvm.MethodName) : Cond),
  (Cond.castable "java/lang/IllegalArgumentException" "java/lang/IllegalArgumentException" : Cond),
  (Cond.castable "java/lang/IndexOutOfBoundsException" "java/lang/IndexOutOfBoundsException" : Cond),
  (Cond.castable "java/util/NoSuchElementException" "java/util/NoSuchElementException" : Cond)]
def NGP : List (Nat × Nat) := [(1, 34), (1, 55), (1, 57), (1, 59), (1, 82), (1, 108), (1, 152), (2, 67), (4, 34), (4, 35), (4, 36), (4, 37), (4, 38), (4, 39), (4, 40), (4, 113), (4, 147), (4, 199)]
/-- String constants: class, pool index, text, which -/
def strK : List (Nat × Nat × String × Nat) := [(7, 65, "box", 0), (7, 74, "steal", 1), (7, 44, "post", 2), (7, 53, "ball", 3), (7, 102, "at", 4), (7, 104, "speed", 5), (7, 109, "weight", 6), (9, 281, "box", 0), (9, 283, "steal", 1), (9, 285, "post", 2), (9, 287, "ball", 3), (9, 289, "at", 4), (9, 291, "speed", 5), (9, 293, "weight", 6)]
def NCP : List (String × String) := [("java/lang/IllegalStateException", "java/lang/IllegalArgumentException"), ("java/lang/IllegalStateException", "java/lang/IndexOutOfBoundsException"), ("java/lang/IllegalStateException", "java/util/NoSuchElementException"), ("java/lang/IllegalArgumentException", "java/lang/IllegalStateException"), ("java/lang/IllegalArgumentException", "java/lang/IndexOutOfBoundsException"), ("java/lang/IllegalArgumentException", "java/util/NoSuchElementException"), ("java/lang/IndexOutOfBoundsException", "java/lang/IllegalStateException"), ("java/lang/IndexOutOfBoundsException", "java/lang/IllegalArgumentException"), ("java/lang/IndexOutOfBoundsException", "java/util/NoSuchElementException"), ("java/util/NoSuchElementException", "java/lang/IllegalStateException"), ("java/util/NoSuchElementException", "java/lang/IllegalArgumentException"), ("java/util/NoSuchElementException", "java/lang/IndexOutOfBoundsException")]
def tysF (cid : Nat → ClassId) : List (ClassId × FieldType) := [(cid 11, .int), (cid 12, .long), (cid 13, .byte), (cid 14, .boolean), (cid 15, .double), (cid 16, .object "LineBalls$Ball"), (cid 17, .object "LineBalls$Barrier"), (cid 18, .object "LineBalls$Line")]
def ngOk (w : Cond) : Bool := match w with
  | .methodLinkNest _ _ _ _ => true
  | .castable _ _ => true
  | .declares _ => true
  | .arrayOver (.object _) => true
  | _ => false
theorem NGW_ok : ∀ w ∈ NGW, ngOk w = true := by decide +kernel
theorem ng_warm {w : Cond} (h : ngOk w = true) {s U : State} (hW : s.WarmedH U.vm) (hZ : va_Nw w s) : va_Nw w U := by
  match w, h, hZ with
  | .methodLinkNest _ _ _ _, _, hZ => exact va_Nw.warmM hW hZ
  | .castable _ _, _, hZ => exact va_Nw.warmC hW hZ
  | .declares _, _, hZ => exact va_Nw.warmD hW hZ
  | .arrayOver (.object _), _, hZ => exact va_AO.moved hW.alike hZ
def AA (base : Nat) : Nat → Prop := fun q => base ≤ q
def KU (dC : Nat → ClassId) (dI : Nat → Nat → Nat) (cid : Nat → ClassId) (ad : Nat → Nat) (U : State) : Prop :=
  va_K (dC, dI) vwCl (tysF cid) U ∧ (∀ w ∈ NGW, va_Nw w U) ∧ (∀ e ∈ strK, vk_R (zC e.1) e.2.1 e.2.2.1 (ad (1 + e.2.2.2)) U) ∧ ∀ q ∈ NCP, va_Nc q.1 q.2 U
def HF (base L : Nat) (xs : Nat → Int32) (ad : Nat → Nat) (U : State) (H : Heap) : Prop :=
  base ≤ H.size ∧ va_X (ad 0) L xs U H ∧ ad 0 < base ∧ vk_S 7 sln sby (fun i => ad (1 + i)) (fun i => ad (8 + i)) (AA base) U H ∧ va_Z "java/lang/String" "COMPACT_STRINGS" "Z" (.int 1) (AA base) U H ∧
  va_Zq "jdk/internal/util/Preconditions" "SIOOBE_FORMATTER" "Ljava/util/function/BiFunction;" (AA base) U H ∧ vx_Zq Bundle.tN "UNASSIGNED_STACK" Bundle.steD (AA base) U H ∧ vx_Zq Bundle.tN "SUPPRESSED_SENTINEL" Bundle.listD (AA base) U H
theorem KU.warm {dC : Nat → ClassId} {dI : Nat → Nat → Nat} {cid : Nat → ClassId} {ad : Nat → Nat} {s U : State} (hW : s.WarmedH U.vm) (h : KU dC dI cid ad s) : KU dC dI cid ad U :=
  ⟨va_K.moved hW.alike h.1, fun w hw => ng_warm (NGW_ok w hw) hW (h.2.1 w hw), fun e he => vk_R.warm hW (h.2.2.1 e he), fun q hq => va_Nc.moved hW.alike (h.2.2.2 q hq)⟩
theorem KU.adr {dC : Nat → ClassId} {dI : Nat → Nat → Nat} {cid : Nat → ClassId} {ad ad' : Nat → Nat} {s : State} (ha : ∀ k, k < 15 → ad' k = ad k) (h : KU dC dI cid ad s) : KU dC dI cid ad' s :=
  ⟨h.1, h.2.1, fun e he => by
    have h1 := h.2.2.1 e he
    have h2 : e.2.2.2 < 7 := by
      have h3 : ∀ e ∈ strK, e.2.2.2 < 7 := by decide +kernel
      exact h3 e he
    rw [ha _ (by omega)]
    exact h1, h.2.2.2⟩
theorem HF.adr {base L : Nat} {xs : Nat → Int32} {ad ad' : Nat → Nat} {U : State} {H : Heap} (ha : ∀ k, k < 15 → ad' k = ad k) (h : HF base L xs ad U H) : HF base L xs ad' U H := by
  obtain ⟨h1, h2, h3, h4, h5⟩ := h
  refine ⟨h1, by rw [ha 0 (by omega)]; exact h2, by rw [ha 0 (by omega)]; exact h3, ⟨fun i hi => ?_, fun i j hi hj => ?_⟩, h5⟩
  · dsimp only
    rw [ha (1 + i) (by omega), ha (8 + i) (by omega)]
    exact h4.1 i hi
  · dsimp only
    rw [ha (1 + i) (by omega), ha (1 + j) (by omega)]
    exact h4.2 i j hi hj
theorem HF.moved {base L : Nat} {xs : Nat → Int32} {ad : Nat → Nat} {u U : State} {H H1 : Heap} (hvm : u.vm.Alike U.vm) (hz : H.size ≤ H1.size) (hq : ∀ a : Nat, a < H.size → ¬ AA base a → H1[a]? = H[a]?) (h : HF base L xs ad u H) : HF base L xs ad U H1 := by
  obtain ⟨h1, h2, h3, h4, h5, h6, h7, h8⟩ := h
  refine ⟨Nat.le_trans h1 hz, (va_X.moved hvm h2).kept (hq _ (Nat.lt_of_lt_of_le h3 h1) (Nat.not_le.mpr h3)), h3, (vk_S.moved hvm h4).kept hq, (va_Z.moved hvm h5).kept hq, (va_Zq.moved hvm h6).kept hq, (vx_Zq.moved hvm h7).kept hq, (vx_Zq.moved hvm h8).kept hq⟩
end
section
/-! SOUNDNESS, an instruction at a time: locals and stack -/
def cu (σ : St) : Nat := zn σ + zt σ
def su (σ : St) : Nat := zs σ + 6 * zt σ
def Cx (p : Program) (l : Launch) (s : State) (m : MethodId) (args : Array Value) (meth : Method) (c : Code) (mi : Nat) : Prop :=
  p.tables.exec = Jvm.exec ∧ c.code = mCd mi ∧ meth.sig.returnType = mRt mi ∧ c.maxLocals = mMx mi ∧ s.vm.findClass (zC (mOw mi)) = some m.cls ∧ meth.locks = false ∧ c.exceptionTable.toList = Jvm.tableOf (mHn mi) ∧ (∀ w ∈ ALLW, w.before args s = true) ∧ (mKd mi = 2 → meth.name = "<init>") ∧ l.stackTraces = false
def Wd (dC : Nat → ClassId) (dI : Nat → Nat → Nat) (cid : Nat → ClassId) (base L : Nat) (xs : Nat → Int32) (ad : Nat → Nat) (σ : St) (H : Heap) : Prop :=
  va_P (dC, dI) vwCl (wl cid ad σ) H ∧ va_D (AA base) (wl cid ad σ) ∧ wf L xs σ
def Sx (p : Program) (l : Launch) (s : State) (m : MethodId) (args : Array Value) (meth : Method) (c : Code) (R : Room) (H : Heap) (locs : List Loc) (mi : Nat) (dC : Nat → ClassId) (dI : Nat → Nat → Nat) (cid : Nat → ClassId) (base L : Nat) (xs : Nat → Int32) (ad : Nat → Nat) (lo : Lo) (ls : Array Slot) (σ : St) : Prop :=
  Cx p l s m args meth c mi ∧ KU dC dI cid ad s ∧ HF base L xs ad s s.heap ∧ Wd dC dI cid base L xs ad σ H ∧ va_S (AA base) s.heap H locs ∧ LR (zn σ) ad lo ls (mMx mi) ∧ 8 ≤ R.frames ∧ 120 ≤ R.locals
/-- what holds behind a step: its continuation -/
def Kn (p : Program) (l : Launch) (e : Env) (R : Room) (s : State) (m : MethodId) (args : Array Value) (below : List Frame) (meth : Method) (c : Code) (cells slots : Nat) (Q : State → Prop) (mi : Nat) (dC : Nat → ClassId) (dI : Nat → Nat → Nat) (cid : Nat → ClassId) (base L : Nat) (xs : Nat → Int32) (ad : Nat → Nat) (σ : St) (pc' : Nat) (lo' : Lo) (st' : List Value) (σ1 : St) : Prop :=
  ∀ (H1 : Heap) (locs1 : List Loc) (ls1 : Array Slot) (ad1 : Nat → Nat) (cst1 : List Value), Wd dC dI cid base L xs ad1 σ1 H1 → (∀ k, k < zn σ → ad1 k = ad k) → va_S (AA base) s.heap H1 locs1 → LR (zn σ1) ad1 lo' ls1 (mMx mi) → vrs (zn σ1) ad1 st' cst1 →
    W p l e R s m args below meth c H1 locs1 (cells + (cu σ1 - cu σ)) (slots + (su σ1 - su σ)) Q (F0 m pc' ls1 cst1)
section S8
variable {p : Program} {l : Launch} {e : Env} {R : Room} {s : State} {m : MethodId} {args : Array Value} {below : List Frame} {meth : Method} {c : Code} {H : Heap} {locs : List Loc} {cells slots : Nat} {Q : State → Prop}
variable {mi pc : Nat} {dC : Nat → ClassId} {dI : Nat → Nat → Nat} {cid : Nat → ClassId} {base L : Nat} {xs : Nat → Int32} {ad : Nat → Nat} {lo lo1 : Lo} {ls : Array Slot} {st st1 cst : List Value} {σ σ1 : St} {pc1 : Nat}
theorem Kn.id {pc' : Nat} {lo' : Lo} {st' cst1 : List Value} {ls1 : Array Slot} (kn : Kn p l e R s m args below meth c cells slots Q mi dC dI cid base L xs ad σ (pc') (lo') (st') (σ)) (X : Sx p l s m args meth c R H locs mi dC dI cid base L xs ad lo ls σ) (hl : LR (zn σ) ad lo' ls1 (mMx mi)) (hs : vrs (zn σ) ad st' cst1) : W p l e R s m args below meth c H locs cells slots Q (F0 m pc' ls1 cst1) := by
  have h := kn H locs ls1 ad cst1 X.2.2.2.1 (fun _ _ => rfl) X.2.2.2.2.1 hl hs
  rw [Nat.sub_self, Nat.sub_self, Nat.add_zero, Nat.add_zero] at h
  exact h
theorem zld_inv {k i pc' : Nat} (h : zld k i pc' lo st σ = some (.inl (pc1, lo1, st1, σ1))) : ∃ v, lo[i]? = some (some v) ∧ zk v = k ∧ pc1 = pc' ∧ lo1 = lo ∧ st1 = v :: st ∧ σ1 = σ := by
  unfold zld at h
  split at h
  · rename_i v hv
    split at h
    · rename_i hk
      cases h
      exact ⟨v, hv, hk, rfl, rfl, rfl, rfl⟩
    · cases h
  · cases h
theorem zst_inv {k i pc' : Nat} (h : zst k i pc' lo st σ = some (.inl (pc1, lo1, st1, σ1))) : ∃ v, st = v :: st1 ∧ zk v = k ∧ i < lo.length ∧ pc1 = pc' ∧ lo1 = lset1 lo i v ∧ σ1 = σ := by
  unfold zst at h
  split at h
  · rename_i v st2
    split at h
    · rename_i hk
      cases h
      exact ⟨v, rfl, hk.1, hk.2, rfl, rfl, rfl⟩
    · cases h
  · cases h
theorem zst2_inv {k i pc' : Nat} (h : zst2 k i pc' lo st σ = some (.inl (pc1, lo1, st1, σ1))) : ∃ v, st = v :: st1 ∧ zk v = k ∧ i + 1 < lo.length ∧ pc1 = pc' ∧ lo1 = lset2 lo i v ∧ σ1 = σ := by
  unfold zst2 at h
  split at h
  · rename_i v st2
    split at h
    · rename_i hk
      cases h
      exact ⟨v, rfl, hk.1, hk.2, rfl, rfl, rfl⟩
    · cases h
  · cases h
theorem zk_0 {v : Value} (h : zk v = 0) : ∃ x, v = .int x := by cases v <;> simp [zk] at h; exact ⟨_, rfl⟩
theorem zk_1 {v : Value} (h : zk v = 1) : ∃ x, v = .long x := by cases v <;> simp [zk] at h; exact ⟨_, rfl⟩
theorem zk_2 {v : Value} (h : zk v = 2) : ∃ x, v = .float x := by cases v <;> simp [zk] at h; exact ⟨_, rfl⟩
theorem zk_3 {v : Value} (h : zk v = 3) : ∃ x, v = .double x := by cases v <;> simp [zk] at h; exact ⟨_, rfl⟩
theorem vr_4 {n : Nat} {ad : Nat → Nat} {v cv : Value} (h : zk v = 4) (hv : vr n ad v cv) : cv = .null ∨ ∃ q, cv = .ref q := by
  cases v with
  | null => exact Or.inl hv
  | ref k => exact Or.inr ⟨_, hv.2⟩
  | retAddr k => exact hv
  | _ => simp [zk] at h
theorem tgo_inv {off : Int} (h : tgo pc off lo st σ = some (.inl (pc1, lo1, st1, σ1))) : (pc : Int) + off = (pc1 : Int) ∧ lo1 = lo ∧ st1 = st ∧ σ1 = σ := by
  unfold tgo at h
  split at h
  · rename_i hk
    cases h
    exact ⟨by omega, rfl, rfl, rfl⟩
  · cases h

theorem s_aload {k : Nat} (X : Sx p l s m args meth c R H locs mi dC dI cid base L xs ad lo ls σ) (hd : decode (mCd mi) pc = .ok (.aload k, 2)) (h : zins mi pc lo st σ (.aload k) = some (.inl (pc1, lo1, st1, σ1))) (hs : vrs (zn σ) ad st cst) (kn : Kn p l e R s m args below meth c cells slots Q mi dC dI cid base L xs ad σ (pc1) (lo1) (st1) (σ1)) : W p l e R s m args below meth c H locs cells slots Q (F0 m pc ls cst) := by
  obtain ⟨v, hv, hk, rfl, rfl, rfl, rfl⟩ := zld_inv h
  obtain ⟨cv, h1, h2⟩ := X.2.2.2.2.2.1.at hv
  rcases vr_4 hk h2 with rfl | ⟨q, rfl⟩
  · exact lv_aloadN X.1.1 X.1.2.1 hd h1 (kn.id X X.2.2.2.2.2.1 ⟨h2, hs⟩)
  · exact lv_aload X.1.1 X.1.2.1 hd h1 (kn.id X X.2.2.2.2.2.1 ⟨h2, hs⟩)

theorem s_aload_n {k : Fin 4} (X : Sx p l s m args meth c R H locs mi dC dI cid base L xs ad lo ls σ) (hd : decode (mCd mi) pc = .ok (.aload_n k, 1)) (h : zins mi pc lo st σ (.aload_n k) = some (.inl (pc1, lo1, st1, σ1))) (hs : vrs (zn σ) ad st cst) (kn : Kn p l e R s m args below meth c cells slots Q mi dC dI cid base L xs ad σ (pc1) (lo1) (st1) (σ1)) : W p l e R s m args below meth c H locs cells slots Q (F0 m pc ls cst) := by
  obtain ⟨v, hv, hk, rfl, rfl, rfl, rfl⟩ := zld_inv h
  obtain ⟨cv, h1, h2⟩ := X.2.2.2.2.2.1.at hv
  rcases vr_4 hk h2 with rfl | ⟨q, rfl⟩
  · exact lv_aload_nN X.1.1 X.1.2.1 hd rfl h1 (kn.id X X.2.2.2.2.2.1 ⟨h2, hs⟩)
  · exact lv_aload_n X.1.1 X.1.2.1 hd rfl h1 (kn.id X X.2.2.2.2.2.1 ⟨h2, hs⟩)

theorem s_iload {k : Nat} (X : Sx p l s m args meth c R H locs mi dC dI cid base L xs ad lo ls σ) (hd : decode (mCd mi) pc = .ok (.iload k, 2)) (h : zins mi pc lo st σ (.iload k) = some (.inl (pc1, lo1, st1, σ1))) (hs : vrs (zn σ) ad st cst) (kn : Kn p l e R s m args below meth c cells slots Q mi dC dI cid base L xs ad σ (pc1) (lo1) (st1) (σ1)) : W p l e R s m args below meth c H locs cells slots Q (F0 m pc ls cst) := by
  obtain ⟨v, hv, hk, rfl, rfl, rfl, rfl⟩ := zld_inv h
  obtain ⟨x, rfl⟩ := zk_0 hk
  obtain ⟨cv, h1, h2⟩ := X.2.2.2.2.2.1.at hv
  rw [show cv = _ from h2] at h1
  exact lv_iload X.1.1 X.1.2.1 hd h1 (kn.id X X.2.2.2.2.2.1 ⟨rfl, hs⟩)

theorem s_iload_n {k : Fin 4} (X : Sx p l s m args meth c R H locs mi dC dI cid base L xs ad lo ls σ) (hd : decode (mCd mi) pc = .ok (.iload_n k, 1)) (h : zins mi pc lo st σ (.iload_n k) = some (.inl (pc1, lo1, st1, σ1))) (hs : vrs (zn σ) ad st cst) (kn : Kn p l e R s m args below meth c cells slots Q mi dC dI cid base L xs ad σ (pc1) (lo1) (st1) (σ1)) : W p l e R s m args below meth c H locs cells slots Q (F0 m pc ls cst) := by
  obtain ⟨v, hv, hk, rfl, rfl, rfl, rfl⟩ := zld_inv h
  obtain ⟨x, rfl⟩ := zk_0 hk
  obtain ⟨cv, h1, h2⟩ := X.2.2.2.2.2.1.at hv
  rw [show cv = _ from h2] at h1
  exact lv_iload_n X.1.1 X.1.2.1 hd rfl h1 (kn.id X X.2.2.2.2.2.1 ⟨rfl, hs⟩)

theorem s_lload {k : Nat} (X : Sx p l s m args meth c R H locs mi dC dI cid base L xs ad lo ls σ) (hd : decode (mCd mi) pc = .ok (.lload k, 2)) (h : zins mi pc lo st σ (.lload k) = some (.inl (pc1, lo1, st1, σ1))) (hs : vrs (zn σ) ad st cst) (kn : Kn p l e R s m args below meth c cells slots Q mi dC dI cid base L xs ad σ (pc1) (lo1) (st1) (σ1)) : W p l e R s m args below meth c H locs cells slots Q (F0 m pc ls cst) := by
  obtain ⟨v, hv, hk, rfl, rfl, rfl, rfl⟩ := zld_inv h
  obtain ⟨x, rfl⟩ := zk_1 hk
  obtain ⟨cv, h1, h2⟩ := X.2.2.2.2.2.1.at hv
  rw [show cv = _ from h2] at h1
  exact lv_lload X.1.1 X.1.2.1 hd h1 (kn.id X X.2.2.2.2.2.1 ⟨rfl, hs⟩)

theorem s_lload_n {k : Fin 4} (X : Sx p l s m args meth c R H locs mi dC dI cid base L xs ad lo ls σ) (hd : decode (mCd mi) pc = .ok (.lload_n k, 1)) (h : zins mi pc lo st σ (.lload_n k) = some (.inl (pc1, lo1, st1, σ1))) (hs : vrs (zn σ) ad st cst) (kn : Kn p l e R s m args below meth c cells slots Q mi dC dI cid base L xs ad σ (pc1) (lo1) (st1) (σ1)) : W p l e R s m args below meth c H locs cells slots Q (F0 m pc ls cst) := by
  obtain ⟨v, hv, hk, rfl, rfl, rfl, rfl⟩ := zld_inv h
  obtain ⟨x, rfl⟩ := zk_1 hk
  obtain ⟨cv, h1, h2⟩ := X.2.2.2.2.2.1.at hv
  rw [show cv = _ from h2] at h1
  exact lv_lload_n X.1.1 X.1.2.1 hd rfl h1 (kn.id X X.2.2.2.2.2.1 ⟨rfl, hs⟩)

theorem s_fload {k : Nat} (X : Sx p l s m args meth c R H locs mi dC dI cid base L xs ad lo ls σ) (hd : decode (mCd mi) pc = .ok (.fload k, 2)) (h : zins mi pc lo st σ (.fload k) = some (.inl (pc1, lo1, st1, σ1))) (hs : vrs (zn σ) ad st cst) (kn : Kn p l e R s m args below meth c cells slots Q mi dC dI cid base L xs ad σ (pc1) (lo1) (st1) (σ1)) : W p l e R s m args below meth c H locs cells slots Q (F0 m pc ls cst) := by
  obtain ⟨v, hv, hk, rfl, rfl, rfl, rfl⟩ := zld_inv h
  obtain ⟨x, rfl⟩ := zk_2 hk
  obtain ⟨cv, h1, h2⟩ := X.2.2.2.2.2.1.at hv
  rw [show cv = _ from h2] at h1
  exact lv_fload X.1.1 X.1.2.1 hd h1 (kn.id X X.2.2.2.2.2.1 ⟨rfl, hs⟩)

theorem s_dload {k : Nat} (X : Sx p l s m args meth c R H locs mi dC dI cid base L xs ad lo ls σ) (hd : decode (mCd mi) pc = .ok (.dload k, 2)) (h : zins mi pc lo st σ (.dload k) = some (.inl (pc1, lo1, st1, σ1))) (hs : vrs (zn σ) ad st cst) (kn : Kn p l e R s m args below meth c cells slots Q mi dC dI cid base L xs ad σ (pc1) (lo1) (st1) (σ1)) : W p l e R s m args below meth c H locs cells slots Q (F0 m pc ls cst) := by
  obtain ⟨v, hv, hk, rfl, rfl, rfl, rfl⟩ := zld_inv h
  obtain ⟨x, rfl⟩ := zk_3 hk
  obtain ⟨cv, h1, h2⟩ := X.2.2.2.2.2.1.at hv
  rw [show cv = _ from h2] at h1
  exact lv_dload X.1.1 X.1.2.1 hd h1 (kn.id X X.2.2.2.2.2.1 ⟨rfl, hs⟩)

theorem s_astore {k : Nat} (X : Sx p l s m args meth c R H locs mi dC dI cid base L xs ad lo ls σ) (hd : decode (mCd mi) pc = .ok (.astore k, 2)) (h : zins mi pc lo st σ (.astore k) = some (.inl (pc1, lo1, st1, σ1))) (hs : vrs (zn σ) ad st cst) (kn : Kn p l e R s m args below meth c cells slots Q mi dC dI cid base L xs ad σ (pc1) (lo1) (st1) (σ1)) : W p l e R s m args below meth c H locs cells slots Q (F0 m pc ls cst) := by
  obtain ⟨v, rfl, hk, hi, rfl, rfl, rfl⟩ := zst_inv h
  obtain ⟨hlen, lv, hh, hc⟩ := X.2.2.2.2.2.1
  obtain ⟨cv, cst1, rfl, h2, hs1⟩ := vrs_cons hs
  rcases vr_4 hk h2 with rfl | ⟨q, rfl⟩
  · exact lv_astoreN X.1.1 X.1.2.1 hd hh (by rw [← hlen]; exact hi) rfl (fun ls1 h1 => kn.id X ⟨by rw [lset1_len]; exact hlen, _, h1, lcs_set1 hc h2⟩ hs1)
  · exact lv_astore X.1.1 X.1.2.1 hd hh (by rw [← hlen]; exact hi) rfl (fun ls1 h1 => kn.id X ⟨by rw [lset1_len]; exact hlen, _, h1, lcs_set1 hc h2⟩ hs1)

theorem s_astore_n {k : Fin 4} (X : Sx p l s m args meth c R H locs mi dC dI cid base L xs ad lo ls σ) (hd : decode (mCd mi) pc = .ok (.astore_n k, 1)) (h : zins mi pc lo st σ (.astore_n k) = some (.inl (pc1, lo1, st1, σ1))) (hs : vrs (zn σ) ad st cst) (kn : Kn p l e R s m args below meth c cells slots Q mi dC dI cid base L xs ad σ (pc1) (lo1) (st1) (σ1)) : W p l e R s m args below meth c H locs cells slots Q (F0 m pc ls cst) := by
  obtain ⟨v, rfl, hk, hi, rfl, rfl, rfl⟩ := zst_inv h
  obtain ⟨hlen, lv, hh, hc⟩ := X.2.2.2.2.2.1
  obtain ⟨cv, cst1, rfl, h2, hs1⟩ := vrs_cons hs
  rcases vr_4 hk h2 with rfl | ⟨q, rfl⟩
  · exact lv_astore_nN X.1.1 X.1.2.1 hd rfl hh (by rw [← hlen]; exact hi) rfl (fun ls1 h1 => kn.id X ⟨by rw [lset1_len]; exact hlen, _, h1, lcs_set1 hc h2⟩ hs1)
  · exact lv_astore_n X.1.1 X.1.2.1 hd rfl hh (by rw [← hlen]; exact hi) rfl (fun ls1 h1 => kn.id X ⟨by rw [lset1_len]; exact hlen, _, h1, lcs_set1 hc h2⟩ hs1)

theorem s_istore {k : Nat} (X : Sx p l s m args meth c R H locs mi dC dI cid base L xs ad lo ls σ) (hd : decode (mCd mi) pc = .ok (.istore k, 2)) (h : zins mi pc lo st σ (.istore k) = some (.inl (pc1, lo1, st1, σ1))) (hs : vrs (zn σ) ad st cst) (kn : Kn p l e R s m args below meth c cells slots Q mi dC dI cid base L xs ad σ (pc1) (lo1) (st1) (σ1)) : W p l e R s m args below meth c H locs cells slots Q (F0 m pc ls cst) := by
  obtain ⟨v, rfl, hk, hi, rfl, rfl, rfl⟩ := zst_inv h
  obtain ⟨hlen, lv, hh, hc⟩ := X.2.2.2.2.2.1
  obtain ⟨x, rfl⟩ := zk_0 hk
  obtain ⟨cst1, rfl, hs1⟩ := vrs_int hs
  exact lv_istore X.1.1 X.1.2.1 hd hh (by rw [← hlen]; exact hi) rfl (fun ls1 h1 => kn.id X ⟨by rw [lset1_len]; exact hlen, _, h1, lcs_set1 hc rfl⟩ hs1)

theorem s_istore_n {k : Fin 4} (X : Sx p l s m args meth c R H locs mi dC dI cid base L xs ad lo ls σ) (hd : decode (mCd mi) pc = .ok (.istore_n k, 1)) (h : zins mi pc lo st σ (.istore_n k) = some (.inl (pc1, lo1, st1, σ1))) (hs : vrs (zn σ) ad st cst) (kn : Kn p l e R s m args below meth c cells slots Q mi dC dI cid base L xs ad σ (pc1) (lo1) (st1) (σ1)) : W p l e R s m args below meth c H locs cells slots Q (F0 m pc ls cst) := by
  obtain ⟨v, rfl, hk, hi, rfl, rfl, rfl⟩ := zst_inv h
  obtain ⟨hlen, lv, hh, hc⟩ := X.2.2.2.2.2.1
  obtain ⟨x, rfl⟩ := zk_0 hk
  obtain ⟨cst1, rfl, hs1⟩ := vrs_int hs
  exact lv_istore_n X.1.1 X.1.2.1 hd rfl hh (by rw [← hlen]; exact hi) rfl (fun ls1 h1 => kn.id X ⟨by rw [lset1_len]; exact hlen, _, h1, lcs_set1 hc rfl⟩ hs1)

theorem s_fstore {k : Nat} (X : Sx p l s m args meth c R H locs mi dC dI cid base L xs ad lo ls σ) (hd : decode (mCd mi) pc = .ok (.fstore k, 2)) (h : zins mi pc lo st σ (.fstore k) = some (.inl (pc1, lo1, st1, σ1))) (hs : vrs (zn σ) ad st cst) (kn : Kn p l e R s m args below meth c cells slots Q mi dC dI cid base L xs ad σ (pc1) (lo1) (st1) (σ1)) : W p l e R s m args below meth c H locs cells slots Q (F0 m pc ls cst) := by
  obtain ⟨v, rfl, hk, hi, rfl, rfl, rfl⟩ := zst_inv h
  obtain ⟨hlen, lv, hh, hc⟩ := X.2.2.2.2.2.1
  obtain ⟨x, rfl⟩ := zk_2 hk
  obtain ⟨cst1, rfl, hs1⟩ := vrs_float hs
  exact lv_fstore X.1.1 X.1.2.1 hd hh (by rw [← hlen]; exact hi) rfl (fun ls1 h1 => kn.id X ⟨by rw [lset1_len]; exact hlen, _, h1, lcs_set1 hc rfl⟩ hs1)

theorem s_lstore {k : Nat} (X : Sx p l s m args meth c R H locs mi dC dI cid base L xs ad lo ls σ) (hd : decode (mCd mi) pc = .ok (.lstore k, 2)) (h : zins mi pc lo st σ (.lstore k) = some (.inl (pc1, lo1, st1, σ1))) (hs : vrs (zn σ) ad st cst) (kn : Kn p l e R s m args below meth c cells slots Q mi dC dI cid base L xs ad σ (pc1) (lo1) (st1) (σ1)) : W p l e R s m args below meth c H locs cells slots Q (F0 m pc ls cst) := by
  obtain ⟨v, rfl, hk, hi, rfl, rfl, rfl⟩ := zst2_inv h
  obtain ⟨hlen, lv, hh, hc⟩ := X.2.2.2.2.2.1
  obtain ⟨x, rfl⟩ := zk_1 hk
  obtain ⟨cst1, rfl, hs1⟩ := vrs_long hs
  exact lv_lstore X.1.1 X.1.2.1 hd hh (by rw [← hlen]; exact hi) rfl (fun ls1 h1 => kn.id X ⟨by rw [lset2_len]; exact hlen, _, h1, lcs_set2 hc rfl⟩ hs1)

theorem s_lstore_n {k : Fin 4} (X : Sx p l s m args meth c R H locs mi dC dI cid base L xs ad lo ls σ) (hd : decode (mCd mi) pc = .ok (.lstore_n k, 1)) (h : zins mi pc lo st σ (.lstore_n k) = some (.inl (pc1, lo1, st1, σ1))) (hs : vrs (zn σ) ad st cst) (kn : Kn p l e R s m args below meth c cells slots Q mi dC dI cid base L xs ad σ (pc1) (lo1) (st1) (σ1)) : W p l e R s m args below meth c H locs cells slots Q (F0 m pc ls cst) := by
  obtain ⟨v, rfl, hk, hi, rfl, rfl, rfl⟩ := zst2_inv h
  obtain ⟨hlen, lv, hh, hc⟩ := X.2.2.2.2.2.1
  obtain ⟨x, rfl⟩ := zk_1 hk
  obtain ⟨cst1, rfl, hs1⟩ := vrs_long hs
  exact lv_lstore_n X.1.1 X.1.2.1 hd rfl hh (by rw [← hlen]; exact hi) rfl (fun ls1 h1 => kn.id X ⟨by rw [lset2_len]; exact hlen, _, h1, lcs_set2 hc rfl⟩ hs1)

theorem s_dstore {k : Nat} (X : Sx p l s m args meth c R H locs mi dC dI cid base L xs ad lo ls σ) (hd : decode (mCd mi) pc = .ok (.dstore k, 2)) (h : zins mi pc lo st σ (.dstore k) = some (.inl (pc1, lo1, st1, σ1))) (hs : vrs (zn σ) ad st cst) (kn : Kn p l e R s m args below meth c cells slots Q mi dC dI cid base L xs ad σ (pc1) (lo1) (st1) (σ1)) : W p l e R s m args below meth c H locs cells slots Q (F0 m pc ls cst) := by
  obtain ⟨v, rfl, hk, hi, rfl, rfl, rfl⟩ := zst2_inv h
  obtain ⟨hlen, lv, hh, hc⟩ := X.2.2.2.2.2.1
  obtain ⟨x, rfl⟩ := zk_3 hk
  obtain ⟨cst1, rfl, hs1⟩ := vrs_double hs
  exact lv_dstore X.1.1 X.1.2.1 hd hh (by rw [← hlen]; exact hi) rfl (fun ls1 h1 => kn.id X ⟨by rw [lset2_len]; exact hlen, _, h1, lcs_set2 hc rfl⟩ hs1)

theorem s_iinc {k : Nat} {n : Int} (X : Sx p l s m args meth c R H locs mi dC dI cid base L xs ad lo ls σ) (hd : decode (mCd mi) pc = .ok (.iinc k n, 3)) (h : zins mi pc lo st σ (.iinc k n) = some (.inl (pc1, lo1, st1, σ1))) (hs : vrs (zn σ) ad st cst) (kn : Kn p l e R s m args below meth c cells slots Q mi dC dI cid base L xs ad σ (pc1) (lo1) (st1) (σ1)) : W p l e R s m args below meth c H locs cells slots Q (F0 m pc ls cst) := by
  simp only [zins] at h
  split at h
  · rename_i x hv
    cases h
    obtain ⟨hlen, lv, hh, hc⟩ := X.2.2.2.2.2.1
    obtain ⟨cv, h1, h2⟩ := hc _ _ hv
    obtain ⟨i, hi⟩ := List.getElem?_of_mem h1
    rw [show cv = _ from h2] at hi
    exact lv_iinc X.1.1 X.1.2.1 hd hh hi rfl (by rw [← hlen]; exact (List.getElem?_eq_some_iff.mp hv).1) rfl (fun ls1 h1 => kn.id X ⟨by rw [lset1_len]; exact hlen, _, h1, lcs_set1 hc rfl⟩ hs)
  · cases h

theorem s_iconst {n : Int} (X : Sx p l s m args meth c R H locs mi dC dI cid base L xs ad lo ls σ) (hd : decode (mCd mi) pc = .ok (.iconst n, 1)) (h : zins mi pc lo st σ (.iconst n) = some (.inl (pc1, lo1, st1, σ1))) (hs : vrs (zn σ) ad st cst) (kn : Kn p l e R s m args below meth c cells slots Q mi dC dI cid base L xs ad σ (pc1) (lo1) (st1) (σ1)) : W p l e R s m args below meth c H locs cells slots Q (F0 m pc ls cst) := by
  simp only [zins] at h
  cases h
  exact lv_iconst X.1.1 X.1.2.1 hd rfl (kn.id X X.2.2.2.2.2.1 ⟨rfl, hs⟩)

theorem s_lconst {n : Fin 2} (X : Sx p l s m args meth c R H locs mi dC dI cid base L xs ad lo ls σ) (hd : decode (mCd mi) pc = .ok (.lconst n, 1)) (h : zins mi pc lo st σ (.lconst n) = some (.inl (pc1, lo1, st1, σ1))) (hs : vrs (zn σ) ad st cst) (kn : Kn p l e R s m args below meth c cells slots Q mi dC dI cid base L xs ad σ (pc1) (lo1) (st1) (σ1)) : W p l e R s m args below meth c H locs cells slots Q (F0 m pc ls cst) := by
  simp only [zins] at h
  cases h
  exact lv_lconst X.1.1 X.1.2.1 hd rfl (kn.id X X.2.2.2.2.2.1 ⟨rfl, hs⟩)

theorem s_bipush {n : Int} (X : Sx p l s m args meth c R H locs mi dC dI cid base L xs ad lo ls σ) (hd : decode (mCd mi) pc = .ok (.bipush n, 2)) (h : zins mi pc lo st σ (.bipush n) = some (.inl (pc1, lo1, st1, σ1))) (hs : vrs (zn σ) ad st cst) (kn : Kn p l e R s m args below meth c cells slots Q mi dC dI cid base L xs ad σ (pc1) (lo1) (st1) (σ1)) : W p l e R s m args below meth c H locs cells slots Q (F0 m pc ls cst) := by
  simp only [zins] at h
  cases h
  exact lv_bipush X.1.1 X.1.2.1 hd rfl (kn.id X X.2.2.2.2.2.1 ⟨rfl, hs⟩)

theorem s_sipush {n : Int} (X : Sx p l s m args meth c R H locs mi dC dI cid base L xs ad lo ls σ) (hd : decode (mCd mi) pc = .ok (.sipush n, 3)) (h : zins mi pc lo st σ (.sipush n) = some (.inl (pc1, lo1, st1, σ1))) (hs : vrs (zn σ) ad st cst) (kn : Kn p l e R s m args below meth c cells slots Q mi dC dI cid base L xs ad σ (pc1) (lo1) (st1) (σ1)) : W p l e R s m args below meth c H locs cells slots Q (F0 m pc ls cst) := by
  simp only [zins] at h
  cases h
  exact lv_sipush X.1.1 X.1.2.1 hd rfl (kn.id X X.2.2.2.2.2.1 ⟨rfl, hs⟩)

theorem s_aconst_null (X : Sx p l s m args meth c R H locs mi dC dI cid base L xs ad lo ls σ) (hd : decode (mCd mi) pc = .ok (.aconst_null, 1)) (h : zins mi pc lo st σ (.aconst_null) = some (.inl (pc1, lo1, st1, σ1))) (hs : vrs (zn σ) ad st cst) (kn : Kn p l e R s m args below meth c cells slots Q mi dC dI cid base L xs ad σ (pc1) (lo1) (st1) (σ1)) : W p l e R s m args below meth c H locs cells slots Q (F0 m pc ls cst) := by
  simp only [zins] at h
  cases h
  exact lv_null X.1.1 X.1.2.1 hd (kn.id X X.2.2.2.2.2.1 ⟨rfl, hs⟩)

theorem s_fconst {n : Fin 3} (X : Sx p l s m args meth c R H locs mi dC dI cid base L xs ad lo ls σ) (hd : decode (mCd mi) pc = .ok (.fconst n, 1)) (h : zins mi pc lo st σ (.fconst n) = some (.inl (pc1, lo1, st1, σ1))) (hs : vrs (zn σ) ad st cst) (kn : Kn p l e R s m args below meth c cells slots Q mi dC dI cid base L xs ad σ (pc1) (lo1) (st1) (σ1)) : W p l e R s m args below meth c H locs cells slots Q (F0 m pc ls cst) := by
  simp only [zins] at h
  split at h
  · rename_i hn
    subst hn
    cases h
    exact lv_fconst0 X.1.1 X.1.2.1 hd (kn.id X X.2.2.2.2.2.1 ⟨rfl, hs⟩)
  · cases h

theorem s_dconst {n : Fin 2} (X : Sx p l s m args meth c R H locs mi dC dI cid base L xs ad lo ls σ) (hd : decode (mCd mi) pc = .ok (.dconst n, 1)) (h : zins mi pc lo st σ (.dconst n) = some (.inl (pc1, lo1, st1, σ1))) (hs : vrs (zn σ) ad st cst) (kn : Kn p l e R s m args below meth c cells slots Q mi dC dI cid base L xs ad σ (pc1) (lo1) (st1) (σ1)) : W p l e R s m args below meth c H locs cells slots Q (F0 m pc ls cst) := by
  simp only [zins] at h
  split at h
  · rename_i hn
    subst hn
    cases h
    exact lv_dconst0 X.1.1 X.1.2.1 hd (kn.id X X.2.2.2.2.2.1 ⟨rfl, hs⟩)
  · cases h

theorem s_iadd (X : Sx p l s m args meth c R H locs mi dC dI cid base L xs ad lo ls σ) (hd : decode (mCd mi) pc = .ok (.iadd, 1)) (h : zins mi pc lo st σ (.iadd) = some (.inl (pc1, lo1, st1, σ1))) (hs : vrs (zn σ) ad st cst) (kn : Kn p l e R s m args below meth c cells slots Q mi dC dI cid base L xs ad σ (pc1) (lo1) (st1) (σ1)) : W p l e R s m args below meth c H locs cells slots Q (F0 m pc ls cst) := by
  simp only [zins] at h
  split at h
  · cases h
    obtain ⟨cs0, rfl, hs1⟩ := vrs_int hs
    obtain ⟨cs1, rfl, hs2⟩ := vrs_int hs1
    exact lv_iadd X.1.1 X.1.2.1 hd (kn.id X X.2.2.2.2.2.1 ⟨rfl, hs2⟩)
  · cases h

theorem s_isub (X : Sx p l s m args meth c R H locs mi dC dI cid base L xs ad lo ls σ) (hd : decode (mCd mi) pc = .ok (.isub, 1)) (h : zins mi pc lo st σ (.isub) = some (.inl (pc1, lo1, st1, σ1))) (hs : vrs (zn σ) ad st cst) (kn : Kn p l e R s m args below meth c cells slots Q mi dC dI cid base L xs ad σ (pc1) (lo1) (st1) (σ1)) : W p l e R s m args below meth c H locs cells slots Q (F0 m pc ls cst) := by
  simp only [zins] at h
  split at h
  · cases h
    obtain ⟨cs0, rfl, hs1⟩ := vrs_int hs
    obtain ⟨cs1, rfl, hs2⟩ := vrs_int hs1
    exact lv_isub X.1.1 X.1.2.1 hd (kn.id X X.2.2.2.2.2.1 ⟨rfl, hs2⟩)
  · cases h

theorem s_imul (X : Sx p l s m args meth c R H locs mi dC dI cid base L xs ad lo ls σ) (hd : decode (mCd mi) pc = .ok (.imul, 1)) (h : zins mi pc lo st σ (.imul) = some (.inl (pc1, lo1, st1, σ1))) (hs : vrs (zn σ) ad st cst) (kn : Kn p l e R s m args below meth c cells slots Q mi dC dI cid base L xs ad σ (pc1) (lo1) (st1) (σ1)) : W p l e R s m args below meth c H locs cells slots Q (F0 m pc ls cst) := by
  simp only [zins] at h
  split at h
  · cases h
    obtain ⟨cs0, rfl, hs1⟩ := vrs_int hs
    obtain ⟨cs1, rfl, hs2⟩ := vrs_int hs1
    exact lv_imul X.1.1 X.1.2.1 hd (kn.id X X.2.2.2.2.2.1 ⟨rfl, hs2⟩)
  · cases h

theorem s_iand (X : Sx p l s m args meth c R H locs mi dC dI cid base L xs ad lo ls σ) (hd : decode (mCd mi) pc = .ok (.iand, 1)) (h : zins mi pc lo st σ (.iand) = some (.inl (pc1, lo1, st1, σ1))) (hs : vrs (zn σ) ad st cst) (kn : Kn p l e R s m args below meth c cells slots Q mi dC dI cid base L xs ad σ (pc1) (lo1) (st1) (σ1)) : W p l e R s m args below meth c H locs cells slots Q (F0 m pc ls cst) := by
  simp only [zins] at h
  split at h
  · cases h
    obtain ⟨cs0, rfl, hs1⟩ := vrs_int hs
    obtain ⟨cs1, rfl, hs2⟩ := vrs_int hs1
    exact lv_iand X.1.1 X.1.2.1 hd (kn.id X X.2.2.2.2.2.1 ⟨rfl, hs2⟩)
  · cases h

theorem s_ior (X : Sx p l s m args meth c R H locs mi dC dI cid base L xs ad lo ls σ) (hd : decode (mCd mi) pc = .ok (.ior, 1)) (h : zins mi pc lo st σ (.ior) = some (.inl (pc1, lo1, st1, σ1))) (hs : vrs (zn σ) ad st cst) (kn : Kn p l e R s m args below meth c cells slots Q mi dC dI cid base L xs ad σ (pc1) (lo1) (st1) (σ1)) : W p l e R s m args below meth c H locs cells slots Q (F0 m pc ls cst) := by
  simp only [zins] at h
  split at h
  · cases h
    obtain ⟨cs0, rfl, hs1⟩ := vrs_int hs
    obtain ⟨cs1, rfl, hs2⟩ := vrs_int hs1
    exact lv_ior X.1.1 X.1.2.1 hd (kn.id X X.2.2.2.2.2.1 ⟨rfl, hs2⟩)
  · cases h

theorem s_ixor (X : Sx p l s m args meth c R H locs mi dC dI cid base L xs ad lo ls σ) (hd : decode (mCd mi) pc = .ok (.ixor, 1)) (h : zins mi pc lo st σ (.ixor) = some (.inl (pc1, lo1, st1, σ1))) (hs : vrs (zn σ) ad st cst) (kn : Kn p l e R s m args below meth c cells slots Q mi dC dI cid base L xs ad σ (pc1) (lo1) (st1) (σ1)) : W p l e R s m args below meth c H locs cells slots Q (F0 m pc ls cst) := by
  simp only [zins] at h
  split at h
  · cases h
    obtain ⟨cs0, rfl, hs1⟩ := vrs_int hs
    obtain ⟨cs1, rfl, hs2⟩ := vrs_int hs1
    exact lv_ixor X.1.1 X.1.2.1 hd (kn.id X X.2.2.2.2.2.1 ⟨rfl, hs2⟩)
  · cases h

theorem s_ishl (X : Sx p l s m args meth c R H locs mi dC dI cid base L xs ad lo ls σ) (hd : decode (mCd mi) pc = .ok (.ishl, 1)) (h : zins mi pc lo st σ (.ishl) = some (.inl (pc1, lo1, st1, σ1))) (hs : vrs (zn σ) ad st cst) (kn : Kn p l e R s m args below meth c cells slots Q mi dC dI cid base L xs ad σ (pc1) (lo1) (st1) (σ1)) : W p l e R s m args below meth c H locs cells slots Q (F0 m pc ls cst) := by
  simp only [zins] at h
  split at h
  · cases h
    obtain ⟨cs0, rfl, hs1⟩ := vrs_int hs
    obtain ⟨cs1, rfl, hs2⟩ := vrs_int hs1
    exact lv_ishl X.1.1 X.1.2.1 hd (kn.id X X.2.2.2.2.2.1 ⟨rfl, hs2⟩)
  · cases h

theorem s_ishr (X : Sx p l s m args meth c R H locs mi dC dI cid base L xs ad lo ls σ) (hd : decode (mCd mi) pc = .ok (.ishr, 1)) (h : zins mi pc lo st σ (.ishr) = some (.inl (pc1, lo1, st1, σ1))) (hs : vrs (zn σ) ad st cst) (kn : Kn p l e R s m args below meth c cells slots Q mi dC dI cid base L xs ad σ (pc1) (lo1) (st1) (σ1)) : W p l e R s m args below meth c H locs cells slots Q (F0 m pc ls cst) := by
  simp only [zins] at h
  split at h
  · cases h
    obtain ⟨cs0, rfl, hs1⟩ := vrs_int hs
    obtain ⟨cs1, rfl, hs2⟩ := vrs_int hs1
    exact lv_ishr X.1.1 X.1.2.1 hd (kn.id X X.2.2.2.2.2.1 ⟨rfl, hs2⟩)
  · cases h

theorem s_ladd (X : Sx p l s m args meth c R H locs mi dC dI cid base L xs ad lo ls σ) (hd : decode (mCd mi) pc = .ok (.ladd, 1)) (h : zins mi pc lo st σ (.ladd) = some (.inl (pc1, lo1, st1, σ1))) (hs : vrs (zn σ) ad st cst) (kn : Kn p l e R s m args below meth c cells slots Q mi dC dI cid base L xs ad σ (pc1) (lo1) (st1) (σ1)) : W p l e R s m args below meth c H locs cells slots Q (F0 m pc ls cst) := by
  simp only [zins] at h
  split at h
  · cases h
    obtain ⟨cs0, rfl, hs1⟩ := vrs_long hs
    obtain ⟨cs1, rfl, hs2⟩ := vrs_long hs1
    exact lv_ladd X.1.1 X.1.2.1 hd (kn.id X X.2.2.2.2.2.1 ⟨rfl, hs2⟩)
  · cases h

theorem s_lsub (X : Sx p l s m args meth c R H locs mi dC dI cid base L xs ad lo ls σ) (hd : decode (mCd mi) pc = .ok (.lsub, 1)) (h : zins mi pc lo st σ (.lsub) = some (.inl (pc1, lo1, st1, σ1))) (hs : vrs (zn σ) ad st cst) (kn : Kn p l e R s m args below meth c cells slots Q mi dC dI cid base L xs ad σ (pc1) (lo1) (st1) (σ1)) : W p l e R s m args below meth c H locs cells slots Q (F0 m pc ls cst) := by
  simp only [zins] at h
  split at h
  · cases h
    obtain ⟨cs0, rfl, hs1⟩ := vrs_long hs
    obtain ⟨cs1, rfl, hs2⟩ := vrs_long hs1
    exact lv_lsub X.1.1 X.1.2.1 hd (kn.id X X.2.2.2.2.2.1 ⟨rfl, hs2⟩)
  · cases h

theorem s_lcmp (X : Sx p l s m args meth c R H locs mi dC dI cid base L xs ad lo ls σ) (hd : decode (mCd mi) pc = .ok (.lcmp, 1)) (h : zins mi pc lo st σ (.lcmp) = some (.inl (pc1, lo1, st1, σ1))) (hs : vrs (zn σ) ad st cst) (kn : Kn p l e R s m args below meth c cells slots Q mi dC dI cid base L xs ad σ (pc1) (lo1) (st1) (σ1)) : W p l e R s m args below meth c H locs cells slots Q (F0 m pc ls cst) := by
  simp only [zins] at h
  split at h
  · cases h
    obtain ⟨cs0, rfl, hs1⟩ := vrs_long hs
    obtain ⟨cs1, rfl, hs2⟩ := vrs_long hs1
    exact W.lcmp X.1.1 X.1.2.1 hd (kn.id X X.2.2.2.2.2.1 ⟨rfl, hs2⟩)
  · cases h

theorem s_ineg (X : Sx p l s m args meth c R H locs mi dC dI cid base L xs ad lo ls σ) (hd : decode (mCd mi) pc = .ok (.ineg, 1)) (h : zins mi pc lo st σ (.ineg) = some (.inl (pc1, lo1, st1, σ1))) (hs : vrs (zn σ) ad st cst) (kn : Kn p l e R s m args below meth c cells slots Q mi dC dI cid base L xs ad σ (pc1) (lo1) (st1) (σ1)) : W p l e R s m args below meth c H locs cells slots Q (F0 m pc ls cst) := by
  simp only [zins] at h
  split at h
  · cases h
    obtain ⟨cs0, rfl, hs1⟩ := vrs_int hs
    exact lv_ineg X.1.1 X.1.2.1 hd (kn.id X X.2.2.2.2.2.1 ⟨rfl, hs1⟩)
  · cases h

theorem s_i2l (X : Sx p l s m args meth c R H locs mi dC dI cid base L xs ad lo ls σ) (hd : decode (mCd mi) pc = .ok (.i2l, 1)) (h : zins mi pc lo st σ (.i2l) = some (.inl (pc1, lo1, st1, σ1))) (hs : vrs (zn σ) ad st cst) (kn : Kn p l e R s m args below meth c cells slots Q mi dC dI cid base L xs ad σ (pc1) (lo1) (st1) (σ1)) : W p l e R s m args below meth c H locs cells slots Q (F0 m pc ls cst) := by
  simp only [zins] at h
  split at h
  · cases h
    obtain ⟨cs0, rfl, hs1⟩ := vrs_int hs
    exact lv_i2l X.1.1 X.1.2.1 hd rfl (kn.id X X.2.2.2.2.2.1 ⟨rfl, hs1⟩)
  · cases h

theorem s_l2i (X : Sx p l s m args meth c R H locs mi dC dI cid base L xs ad lo ls σ) (hd : decode (mCd mi) pc = .ok (.l2i, 1)) (h : zins mi pc lo st σ (.l2i) = some (.inl (pc1, lo1, st1, σ1))) (hs : vrs (zn σ) ad st cst) (kn : Kn p l e R s m args below meth c cells slots Q mi dC dI cid base L xs ad σ (pc1) (lo1) (st1) (σ1)) : W p l e R s m args below meth c H locs cells slots Q (F0 m pc ls cst) := by
  simp only [zins] at h
  split at h
  · cases h
    obtain ⟨cs0, rfl, hs1⟩ := vrs_long hs
    exact lv_l2i X.1.1 X.1.2.1 hd rfl (kn.id X X.2.2.2.2.2.1 ⟨rfl, hs1⟩)
  · cases h

theorem s_i2b (X : Sx p l s m args meth c R H locs mi dC dI cid base L xs ad lo ls σ) (hd : decode (mCd mi) pc = .ok (.i2b, 1)) (h : zins mi pc lo st σ (.i2b) = some (.inl (pc1, lo1, st1, σ1))) (hs : vrs (zn σ) ad st cst) (kn : Kn p l e R s m args below meth c cells slots Q mi dC dI cid base L xs ad σ (pc1) (lo1) (st1) (σ1)) : W p l e R s m args below meth c H locs cells slots Q (F0 m pc ls cst) := by
  simp only [zins] at h
  split at h
  · cases h
    obtain ⟨cs0, rfl, hs1⟩ := vrs_int hs
    exact lv_i2b X.1.1 X.1.2.1 hd rfl (kn.id X X.2.2.2.2.2.1 ⟨rfl, hs1⟩)
  · cases h

theorem s_i2c (X : Sx p l s m args meth c R H locs mi dC dI cid base L xs ad lo ls σ) (hd : decode (mCd mi) pc = .ok (.i2c, 1)) (h : zins mi pc lo st σ (.i2c) = some (.inl (pc1, lo1, st1, σ1))) (hs : vrs (zn σ) ad st cst) (kn : Kn p l e R s m args below meth c cells slots Q mi dC dI cid base L xs ad σ (pc1) (lo1) (st1) (σ1)) : W p l e R s m args below meth c H locs cells slots Q (F0 m pc ls cst) := by
  simp only [zins] at h
  split at h
  · cases h
    obtain ⟨cs0, rfl, hs1⟩ := vrs_int hs
    exact lv_i2c X.1.1 X.1.2.1 hd rfl (kn.id X X.2.2.2.2.2.1 ⟨rfl, hs1⟩)
  · cases h

theorem s_i2d (X : Sx p l s m args meth c R H locs mi dC dI cid base L xs ad lo ls σ) (hd : decode (mCd mi) pc = .ok (.i2d, 1)) (h : zins mi pc lo st σ (.i2d) = some (.inl (pc1, lo1, st1, σ1))) (hs : vrs (zn σ) ad st cst) (kn : Kn p l e R s m args below meth c cells slots Q mi dC dI cid base L xs ad σ (pc1) (lo1) (st1) (σ1)) : W p l e R s m args below meth c H locs cells slots Q (F0 m pc ls cst) := by
  simp only [zins] at h
  split at h
  · cases h
    obtain ⟨cs0, rfl, hs1⟩ := vrs_int hs
    exact lv_i2d X.1.1 X.1.2.1 hd (kn.id X X.2.2.2.2.2.1 ⟨rfl, hs1⟩)
  · cases h

theorem s_i2f (X : Sx p l s m args meth c R H locs mi dC dI cid base L xs ad lo ls σ) (hd : decode (mCd mi) pc = .ok (.i2f, 1)) (h : zins mi pc lo st σ (.i2f) = some (.inl (pc1, lo1, st1, σ1))) (hs : vrs (zn σ) ad st cst) (kn : Kn p l e R s m args below meth c cells slots Q mi dC dI cid base L xs ad σ (pc1) (lo1) (st1) (σ1)) : W p l e R s m args below meth c H locs cells slots Q (F0 m pc ls cst) := by
  simp only [zins] at h
  split at h
  · cases h
    obtain ⟨cs0, rfl, hs1⟩ := vrs_int hs
    exact lv_i2f X.1.1 X.1.2.1 hd (kn.id X X.2.2.2.2.2.1 ⟨rfl, hs1⟩)
  · cases h

theorem s_l2f (X : Sx p l s m args meth c R H locs mi dC dI cid base L xs ad lo ls σ) (hd : decode (mCd mi) pc = .ok (.l2f, 1)) (h : zins mi pc lo st σ (.l2f) = some (.inl (pc1, lo1, st1, σ1))) (hs : vrs (zn σ) ad st cst) (kn : Kn p l e R s m args below meth c cells slots Q mi dC dI cid base L xs ad σ (pc1) (lo1) (st1) (σ1)) : W p l e R s m args below meth c H locs cells slots Q (F0 m pc ls cst) := by
  simp only [zins] at h
  split at h
  · cases h
    obtain ⟨cs0, rfl, hs1⟩ := vrs_long hs
    exact lv_l2f X.1.1 X.1.2.1 hd (kn.id X X.2.2.2.2.2.1 ⟨rfl, hs1⟩)
  · cases h

theorem s_fcmp {q : CmpOp} (X : Sx p l s m args meth c R H locs mi dC dI cid base L xs ad lo ls σ) (hd : decode (mCd mi) pc = .ok (.fcmp q, 1)) (h : zins mi pc lo st σ (.fcmp q) = some (.inl (pc1, lo1, st1, σ1))) (hs : vrs (zn σ) ad st cst) (kn : Kn p l e R s m args below meth c cells slots Q mi dC dI cid base L xs ad σ (pc1) (lo1) (st1) (σ1)) : W p l e R s m args below meth c H locs cells slots Q (F0 m pc ls cst) := by
  simp only [zins] at h
  split at h
  · cases h
    obtain ⟨cs0, rfl, hs1⟩ := vrs_float hs
    obtain ⟨cs1, rfl, hs2⟩ := vrs_float hs1
    exact lv_fcmp X.1.1 X.1.2.1 hd (kn.id X X.2.2.2.2.2.1 ⟨rfl, hs2⟩)
  · cases h

theorem s_dcmp {q : CmpOp} (X : Sx p l s m args meth c R H locs mi dC dI cid base L xs ad lo ls σ) (hd : decode (mCd mi) pc = .ok (.dcmp q, 1)) (h : zins mi pc lo st σ (.dcmp q) = some (.inl (pc1, lo1, st1, σ1))) (hs : vrs (zn σ) ad st cst) (kn : Kn p l e R s m args below meth c cells slots Q mi dC dI cid base L xs ad σ (pc1) (lo1) (st1) (σ1)) : W p l e R s m args below meth c H locs cells slots Q (F0 m pc ls cst) := by
  simp only [zins] at h
  split at h
  · cases h
    obtain ⟨cs0, rfl, hs1⟩ := vrs_double hs
    obtain ⟨cs1, rfl, hs2⟩ := vrs_double hs1
    exact lv_dcmp X.1.1 X.1.2.1 hd (kn.id X X.2.2.2.2.2.1 ⟨rfl, hs2⟩)
  · cases h

theorem s_idiv (X : Sx p l s m args meth c R H locs mi dC dI cid base L xs ad lo ls σ) (hd : decode (mCd mi) pc = .ok (.idiv, 1)) (h : zins mi pc lo st σ (.idiv) = some (.inl (pc1, lo1, st1, σ1))) (hs : vrs (zn σ) ad st cst) (kn : Kn p l e R s m args below meth c cells slots Q mi dC dI cid base L xs ad σ (pc1) (lo1) (st1) (σ1)) : W p l e R s m args below meth c H locs cells slots Q (F0 m pc ls cst) := by
  simp only [zins] at h
  split at h
  · split at h
    · cases h
    · rename_i hq
      cases h
      obtain ⟨cs0, rfl, hs1⟩ := vrs_int hs
      obtain ⟨cs1, rfl, hs2⟩ := vrs_int hs1
      exact lv_idiv X.1.1 X.1.2.1 hd hq (kn.id X X.2.2.2.2.2.1 ⟨rfl, hs2⟩)
  · cases h

theorem s_irem (X : Sx p l s m args meth c R H locs mi dC dI cid base L xs ad lo ls σ) (hd : decode (mCd mi) pc = .ok (.irem, 1)) (h : zins mi pc lo st σ (.irem) = some (.inl (pc1, lo1, st1, σ1))) (hs : vrs (zn σ) ad st cst) (kn : Kn p l e R s m args below meth c cells slots Q mi dC dI cid base L xs ad σ (pc1) (lo1) (st1) (σ1)) : W p l e R s m args below meth c H locs cells slots Q (F0 m pc ls cst) := by
  simp only [zins] at h
  split at h
  · split at h
    · cases h
    · rename_i hq
      cases h
      obtain ⟨cs0, rfl, hs1⟩ := vrs_int hs
      obtain ⟨cs1, rfl, hs2⟩ := vrs_int hs1
      exact lv_irem X.1.1 X.1.2.1 hd hq (kn.id X X.2.2.2.2.2.1 ⟨rfl, hs2⟩)
  · cases h

theorem s_f2d (X : Sx p l s m args meth c R H locs mi dC dI cid base L xs ad lo ls σ) (hd : decode (mCd mi) pc = .ok (.f2d, 1)) (h : zins mi pc lo st σ (.f2d) = some (.inl (pc1, lo1, st1, σ1))) (hs : vrs (zn σ) ad st cst) (kn : Kn p l e R s m args below meth c cells slots Q mi dC dI cid base L xs ad σ (pc1) (lo1) (st1) (σ1)) : W p l e R s m args below meth c H locs cells slots Q (F0 m pc ls cst) := by
  simp only [zins] at h
  split at h
  · split at h
    · rename_i hq
      cases h
      obtain ⟨cs0, rfl, hs1⟩ := vrs_float hs
      exact lv_f2d X.1.1 X.1.2.1 hd hq (kn.id X X.2.2.2.2.2.1 ⟨rfl, hs1⟩)
    · cases h
  · cases h

theorem s_fdiv (X : Sx p l s m args meth c R H locs mi dC dI cid base L xs ad lo ls σ) (hd : decode (mCd mi) pc = .ok (.fdiv, 1)) (h : zins mi pc lo st σ (.fdiv) = some (.inl (pc1, lo1, st1, σ1))) (hs : vrs (zn σ) ad st cst) (kn : Kn p l e R s m args below meth c cells slots Q mi dC dI cid base L xs ad σ (pc1) (lo1) (st1) (σ1)) : W p l e R s m args below meth c H locs cells slots Q (F0 m pc ls cst) := by
  simp only [zins] at h
  split at h
  · split at h
    · rename_i hq
      cases h
      obtain ⟨cs0, rfl, hs1⟩ := vrs_float hs
      obtain ⟨cs1, rfl, hs2⟩ := vrs_float hs1
      exact lv_fdiv X.1.1 X.1.2.1 hd hq (kn.id X X.2.2.2.2.2.1 ⟨rfl, hs2⟩)
    · cases h
  · cases h

theorem s_ddiv (X : Sx p l s m args meth c R H locs mi dC dI cid base L xs ad lo ls σ) (hd : decode (mCd mi) pc = .ok (.ddiv, 1)) (h : zins mi pc lo st σ (.ddiv) = some (.inl (pc1, lo1, st1, σ1))) (hs : vrs (zn σ) ad st cst) (kn : Kn p l e R s m args below meth c cells slots Q mi dC dI cid base L xs ad σ (pc1) (lo1) (st1) (σ1)) : W p l e R s m args below meth c H locs cells slots Q (F0 m pc ls cst) := by
  simp only [zins] at h
  split at h
  · split at h
    · rename_i hq
      cases h
      obtain ⟨cs0, rfl, hs1⟩ := vrs_double hs
      obtain ⟨cs1, rfl, hs2⟩ := vrs_double hs1
      exact lv_ddiv X.1.1 X.1.2.1 hd hq (kn.id X X.2.2.2.2.2.1 ⟨rfl, hs2⟩)
    · cases h
  · cases h

theorem s_dup (X : Sx p l s m args meth c R H locs mi dC dI cid base L xs ad lo ls σ) (hd : decode (mCd mi) pc = .ok (.dup, 1)) (h : zins mi pc lo st σ (.dup) = some (.inl (pc1, lo1, st1, σ1))) (hs : vrs (zn σ) ad st cst) (kn : Kn p l e R s m args below meth c cells slots Q mi dC dI cid base L xs ad σ (pc1) (lo1) (st1) (σ1)) : W p l e R s m args below meth c H locs cells slots Q (F0 m pc ls cst) := by
  simp only [zins] at h
  split at h
  · split at h
    · rename_i hq
      cases h
      obtain ⟨cv, cs, rfl, h1, hs1⟩ := vrs_cons hs
      exact lv_dup X.1.1 X.1.2.1 hd (by rw [vr_cat h1]; exact hq) (kn.id X X.2.2.2.2.2.1 ⟨h1, h1, hs1⟩)
    · cases h
  · cases h

theorem s_pop (X : Sx p l s m args meth c R H locs mi dC dI cid base L xs ad lo ls σ) (hd : decode (mCd mi) pc = .ok (.pop, 1)) (h : zins mi pc lo st σ (.pop) = some (.inl (pc1, lo1, st1, σ1))) (hs : vrs (zn σ) ad st cst) (kn : Kn p l e R s m args below meth c cells slots Q mi dC dI cid base L xs ad σ (pc1) (lo1) (st1) (σ1)) : W p l e R s m args below meth c H locs cells slots Q (F0 m pc ls cst) := by
  simp only [zins] at h
  split at h
  · split at h
    · rename_i hq
      cases h
      obtain ⟨cv, cs, rfl, h1, hs1⟩ := vrs_cons hs
      exact lv_pop X.1.1 X.1.2.1 hd (by rw [vr_cat h1]; exact hq) (kn.id X X.2.2.2.2.2.1 hs1)
    · cases h
  · cases h

theorem s_dup2 (X : Sx p l s m args meth c R H locs mi dC dI cid base L xs ad lo ls σ) (hd : decode (mCd mi) pc = .ok (.dup2, 1)) (h : zins mi pc lo st σ (.dup2) = some (.inl (pc1, lo1, st1, σ1))) (hs : vrs (zn σ) ad st cst) (kn : Kn p l e R s m args below meth c cells slots Q mi dC dI cid base L xs ad σ (pc1) (lo1) (st1) (σ1)) : W p l e R s m args below meth c H locs cells slots Q (F0 m pc ls cst) := by
  simp only [zins] at h
  split at h
  · split at h
    · rename_i hq
      cases h
      obtain ⟨cv, cs, rfl, h1, hs1⟩ := vrs_cons hs
      obtain ⟨cw, cs2, rfl, h2, hs2⟩ := vrs_cons hs1
      exact lv_dup2_11 X.1.1 X.1.2.1 hd (by rw [vr_cat h1]; exact hq.1) (by rw [vr_cat h2]; exact hq.2) (kn.id X X.2.2.2.2.2.1 ⟨h1, h2, h1, h2, hs2⟩)
    · cases h
  · cases h

theorem s_goto {off : Int} (X : Sx p l s m args meth c R H locs mi dC dI cid base L xs ad lo ls σ) (hd : decode (mCd mi) pc = .ok (.goto off, 3)) (h : zins mi pc lo st σ (.goto off) = some (.inl (pc1, lo1, st1, σ1))) (hs : vrs (zn σ) ad st cst) (kn : Kn p l e R s m args below meth c cells slots Q mi dC dI cid base L xs ad σ (pc1) (lo1) (st1) (σ1)) : W p l e R s m args below meth c H locs cells slots Q (F0 m pc ls cst) := by
  simp only [zins] at h
  obtain ⟨h1, rfl, rfl, rfl⟩ := tgo_inv h
  exact lv_goto X.1.1 X.1.2.1 hd h1 (kn.id X X.2.2.2.2.2.1 hs)

theorem tbr_inv {off : Int} {b : Bool} (h : tbr pc off b lo st σ = some (.inl (pc1, lo1, st1, σ1))) : ∃ tgt : Nat, (pc : Int) + off = (tgt : Int) ∧ (b = true → pc1 = tgt) ∧ (b = false → pc1 = pc + 3) ∧ lo1 = lo ∧ st1 = st ∧ σ1 = σ := by
  unfold tbr at h
  split at h
  · rename_i hk
    cases h
    exact ⟨((pc : Int) + off).toNat, by omega, fun q => if_pos q, fun q => if_neg (by rw [q]; decide), rfl, rfl, rfl⟩
  · cases h

theorem s_ifCond {q : ClassFile.Cond} {off : Int} (X : Sx p l s m args meth c R H locs mi dC dI cid base L xs ad lo ls σ) (hd : decode (mCd mi) pc = .ok (.ifCond q off, 3)) (h : zins mi pc lo st σ (.ifCond q off) = some (.inl (pc1, lo1, st1, σ1))) (hs : vrs (zn σ) ad st cst) (kn : Kn p l e R s m args below meth c cells slots Q mi dC dI cid base L xs ad σ (pc1) (lo1) (st1) (σ1)) : W p l e R s m args below meth c H locs cells slots Q (F0 m pc ls cst) := by
  simp only [zins] at h
  split at h
  · obtain ⟨tgt, ht, h1, h2, rfl, rfl, rfl⟩ := tbr_inv h
    obtain ⟨cs0, rfl, hs1⟩ := vrs_int hs
    cases q
    · exact lv_if_eq X.1.1 X.1.2.1 hd ht (fun hc => by have h3 := h1 (decide_eq_true hc); subst h3; exact kn.id X X.2.2.2.2.2.1 hs1) (fun hc => by have h3 := h2 (decide_eq_false hc); subst h3; exact kn.id X X.2.2.2.2.2.1 hs1)
    · exact lv_if_ne X.1.1 X.1.2.1 hd ht (fun hc => by have h3 := h1 (decide_eq_true hc); subst h3; exact kn.id X X.2.2.2.2.2.1 hs1) (fun hc => by have h3 := h2 (decide_eq_false (not_not_intro hc)); subst h3; exact kn.id X X.2.2.2.2.2.1 hs1)
    · exact lv_if_lt X.1.1 X.1.2.1 hd ht (fun hc => by have h3 := h1 (decide_eq_true hc); subst h3; exact kn.id X X.2.2.2.2.2.1 hs1) (fun hc => by have h3 := h2 (decide_eq_false hc); subst h3; exact kn.id X X.2.2.2.2.2.1 hs1)
    · exact lv_if_ge X.1.1 X.1.2.1 hd ht (fun hc => by have h3 := h1 (decide_eq_true hc); subst h3; exact kn.id X X.2.2.2.2.2.1 hs1) (fun hc => by have h3 := h2 (decide_eq_false hc); subst h3; exact kn.id X X.2.2.2.2.2.1 hs1)
    · exact lv_if_gt X.1.1 X.1.2.1 hd ht (fun hc => by have h3 := h1 (decide_eq_true hc); subst h3; exact kn.id X X.2.2.2.2.2.1 hs1) (fun hc => by have h3 := h2 (decide_eq_false hc); subst h3; exact kn.id X X.2.2.2.2.2.1 hs1)
    · exact lv_if_le X.1.1 X.1.2.1 hd ht (fun hc => by have h3 := h1 (decide_eq_true hc); subst h3; exact kn.id X X.2.2.2.2.2.1 hs1) (fun hc => by have h3 := h2 (decide_eq_false hc); subst h3; exact kn.id X X.2.2.2.2.2.1 hs1)
  · cases h

theorem s_if_icmp {q : ClassFile.Cond} {off : Int} (X : Sx p l s m args meth c R H locs mi dC dI cid base L xs ad lo ls σ) (hd : decode (mCd mi) pc = .ok (.if_icmp q off, 3)) (h : zins mi pc lo st σ (.if_icmp q off) = some (.inl (pc1, lo1, st1, σ1))) (hs : vrs (zn σ) ad st cst) (kn : Kn p l e R s m args below meth c cells slots Q mi dC dI cid base L xs ad σ (pc1) (lo1) (st1) (σ1)) : W p l e R s m args below meth c H locs cells slots Q (F0 m pc ls cst) := by
  simp only [zins] at h
  split at h
  · obtain ⟨tgt, ht, h1, h2, rfl, rfl, rfl⟩ := tbr_inv h
    obtain ⟨cs0, rfl, hs1⟩ := vrs_int hs
    obtain ⟨cs1, rfl, hs2⟩ := vrs_int hs1
    cases q
    · exact lv_icmp_eq X.1.1 X.1.2.1 hd ht (fun hc => by have h3 := h1 (decide_eq_true hc); subst h3; exact kn.id X X.2.2.2.2.2.1 hs2) (fun hc => by have h3 := h2 (decide_eq_false hc); subst h3; exact kn.id X X.2.2.2.2.2.1 hs2)
    · exact lv_icmp_ne X.1.1 X.1.2.1 hd ht (fun hc => by have h3 := h1 (decide_eq_true hc); subst h3; exact kn.id X X.2.2.2.2.2.1 hs2) (fun hc => by have h3 := h2 (decide_eq_false (not_not_intro hc)); subst h3; exact kn.id X X.2.2.2.2.2.1 hs2)
    · exact lv_icmp_lt X.1.1 X.1.2.1 hd ht (fun hc => by have h3 := h1 (decide_eq_true hc); subst h3; exact kn.id X X.2.2.2.2.2.1 hs2) (fun hc => by have h3 := h2 (decide_eq_false hc); subst h3; exact kn.id X X.2.2.2.2.2.1 hs2)
    · exact lv_icmp_ge X.1.1 X.1.2.1 hd ht (fun hc => by have h3 := h1 (decide_eq_true hc); subst h3; exact kn.id X X.2.2.2.2.2.1 hs2) (fun hc => by have h3 := h2 (decide_eq_false hc); subst h3; exact kn.id X X.2.2.2.2.2.1 hs2)
    · exact lv_icmp_gt X.1.1 X.1.2.1 hd ht (fun hc => by have h3 := h1 (decide_eq_true hc); subst h3; exact kn.id X X.2.2.2.2.2.1 hs2) (fun hc => by have h3 := h2 (decide_eq_false hc); subst h3; exact kn.id X X.2.2.2.2.2.1 hs2)
    · exact lv_icmp_le X.1.1 X.1.2.1 hd ht (fun hc => by have h3 := h1 (decide_eq_true hc); subst h3; exact kn.id X X.2.2.2.2.2.1 hs2) (fun hc => by have h3 := h2 (decide_eq_false hc); subst h3; exact kn.id X X.2.2.2.2.2.1 hs2)
  · cases h

theorem s_ifnull {off : Int} (X : Sx p l s m args meth c R H locs mi dC dI cid base L xs ad lo ls σ) (hd : decode (mCd mi) pc = .ok (.ifnull off, 3)) (h : zins mi pc lo st σ (.ifnull off) = some (.inl (pc1, lo1, st1, σ1))) (hs : vrs (zn σ) ad st cst) (kn : Kn p l e R s m args below meth c cells slots Q mi dC dI cid base L xs ad σ (pc1) (lo1) (st1) (σ1)) : W p l e R s m args below meth c H locs cells slots Q (F0 m pc ls cst) := by
  simp only [zins] at h
  split at h
  · obtain ⟨h1, rfl, rfl, rfl⟩ := tgo_inv h
    obtain ⟨cs, rfl, hs1⟩ := vrs_null hs
    exact lv_ifnullN X.1.1 X.1.2.1 hd h1 (kn.id X X.2.2.2.2.2.1 hs1)
  · cases h
    obtain ⟨-, cs, rfl, hs1⟩ := vrs_ref hs
    exact lv_ifnull X.1.1 X.1.2.1 hd (kn.id X X.2.2.2.2.2.1 hs1)
  · cases h

theorem s_ifnonnull {off : Int} (X : Sx p l s m args meth c R H locs mi dC dI cid base L xs ad lo ls σ) (hd : decode (mCd mi) pc = .ok (.ifnonnull off, 3)) (h : zins mi pc lo st σ (.ifnonnull off) = some (.inl (pc1, lo1, st1, σ1))) (hs : vrs (zn σ) ad st cst) (kn : Kn p l e R s m args below meth c cells slots Q mi dC dI cid base L xs ad σ (pc1) (lo1) (st1) (σ1)) : W p l e R s m args below meth c H locs cells slots Q (F0 m pc ls cst) := by
  simp only [zins] at h
  split at h
  · obtain ⟨h1, rfl, rfl, rfl⟩ := tgo_inv h
    obtain ⟨-, cs, rfl, hs1⟩ := vrs_ref hs
    exact lv_ifnonnull X.1.1 X.1.2.1 hd h1 (kn.id X X.2.2.2.2.2.1 hs1)
  · cases h
    obtain ⟨cs, rfl, hs1⟩ := vrs_null hs
    exact lv_ifnonnullN X.1.1 X.1.2.1 hd (kn.id X X.2.2.2.2.2.1 hs1)
  · cases h

theorem s_tableswitch {dflt low hi : Int} {offs : Array Int} {ln : Nat} (X : Sx p l s m args meth c R H locs mi dC dI cid base L xs ad lo ls σ) (hd : decode (mCd mi) pc = .ok (.tableswitch dflt low hi offs, ln)) (h : zins mi pc lo st σ (.tableswitch dflt low hi offs) = some (.inl (pc1, lo1, st1, σ1))) (hs : vrs (zn σ) ad st cst) (kn : Kn p l e R s m args below meth c cells slots Q mi dC dI cid base L xs ad σ (pc1) (lo1) (st1) (σ1)) : W p l e R s m args below meth c H locs cells slots Q (F0 m pc ls cst) := by
  simp only [zins] at h
  split at h
  · split at h
    · rename_i hq
      obtain ⟨h1, rfl, rfl, rfl⟩ := tgo_inv h
      obtain ⟨cs, rfl, hs1⟩ := vrs_int hs
      exact lv_tableOut X.1.1 X.1.2.1 hd hq h1 (kn.id X X.2.2.2.2.2.1 hs1)
    · rename_i hq
      split at h
      · rename_i off ho
        obtain ⟨h1, rfl, rfl, rfl⟩ := tgo_inv h
        obtain ⟨cs, rfl, hs1⟩ := vrs_int hs
        exact lv_tableIn X.1.1 X.1.2.1 hd (fun z => hq (Or.inl z)) (fun z => hq (Or.inr z)) ho h1 (kn.id X X.2.2.2.2.2.1 hs1)
      · cases h
  · cases h

end S8
end
section
/-! SOUNDNESS, an instruction at a time: the heap -/
theorem vwCl_at : ∀ ci, ci < 10 → vwCl[ci]? = some (zC ci, zT ci, zN ci)
  | 0, _ => rfl
  | 1, _ => rfl
  | 2, _ => rfl
  | 3, _ => rfl
  | 4, _ => rfl
  | 5, _ => rfl
  | 6, _ => rfl
  | 7, _ => rfl
  | 8, _ => rfl
  | 9, _ => rfl
  | n + 10, h => absurd h (by omega)
theorem zin : ∀ ci, ci < 10 → ∀ w ∈ u_ws (zC ci) (zT ci) (zN ci), w ∈ ALLW
  | 0, _ => inX0
  | 1, _ => inX1
  | 2, _ => inX2
  | 3, _ => inX3
  | 4, _ => inX4
  | 5, _ => inX5
  | 6, _ => inX6
  | 7, _ => inX7
  | 8, _ => inX8
  | 9, _ => inX9
  | n + 10, h => absurd h (by omega)
theorem zTY_ok : ∀ ci, ci < 10 → ∀ k, k < zN ci → parseFieldDescriptor (zT ci k).2.2.1 = some (zTY ci k)
  | 0, _ => tyX0_ok
  | 1, _ => tyX1_ok
  | 2, _ => tyX2_ok
  | 3, _ => tyX3_ok
  | 4, _ => tyX4_ok
  | 5, _ => tyX5_ok
  | 6, _ => tyX6_ok
  | 7, _ => tyX7_ok
  | 8, _ => tyX8_ok
  | 9, _ => tyX9_ok
  | n + 10, h => absurd h (by omega)
theorem zT_nm : ∀ ci, ci < 10 → ∀ a, a < zN ci → ∀ b, b < zN ci → a ≠ b → (zT ci a).2.1 ≠ (zT ci b).2.1
  | 0, _ => nmX0
  | 1, _ => nmX1
  | 2, _ => nmX2
  | 3, _ => nmX3
  | 4, _ => nmX4
  | 5, _ => nmX5
  | 6, _ => nmX6
  | 7, _ => nmX7
  | 8, _ => nmX8
  | 9, _ => nmX9
  | n + 10, h => absurd h (by omega)
theorem zT_own : ∀ ci, ci < 10 → ∀ k, k < zN ci → (zT ci k).1 = zC ci := by decide +kernel
theorem zTY_def : ∀ ci, ci < 10 → ∀ k, k < zN ci → defaultValue (zTY ci k) = (match fso (zTY ci k) with | 0 => .int 0 | 1 => .long 0 | _ => .null) := by decide +kernel
theorem zinst : ∀ w ∈ [(Cond.instantiable "LineBalls$Ball" 11), (Cond.instantiable "LineBalls$Barrier" 3), (Cond.instantiable "LineBalls$Book" 8), (Cond.instantiable "LineBalls$History" 3), (Cond.instantiable "LineBalls$Line" 11), (Cond.instantiable "LineBalls$Log" 6), (Cond.instantiable "LineBalls$Output" 2), (Cond.instantiable "LineBalls$Parser" 7), (Cond.instantiable "LineBalls" 11), (Cond.instantiable "LineBallsModel" 27), (Cond.initialized "LineBalls$Ball"), (Cond.initialized "LineBalls$Barrier"), (Cond.initialized "LineBalls$Book"), (Cond.initialized "LineBalls$History"), (Cond.initialized "LineBalls$Line"), (Cond.initialized "LineBalls$Log"), (Cond.initialized "LineBalls$Output"), (Cond.initialized "LineBalls$Parser"), (Cond.initialized "LineBalls"), (Cond.initialized "LineBallsModel")], w ∈ ALLW := chkW_ok _ [(1, 151), (1, 58), (1, 107), (2, 61), (1, 49), (1, 81), (1, 33), (2, 33), (1, 25), (6, 10), (1, 7), (1, 4), (1, 6), (1, 9), (1, 3), (1, 5), (1, 2), (1, 8), (1, 1), (1, 10)] (by decide +kernel)
theorem zins1 : ∀ ci, ci < 10 → Cond.instantiable (zC ci) (zN ci) ∈ ALLW
  | 0, _ => zinst _ (List.mem_of_getElem? (i := 0) rfl)
  | 1, _ => zinst _ (List.mem_of_getElem? (i := 1) rfl)
  | 2, _ => zinst _ (List.mem_of_getElem? (i := 2) rfl)
  | 3, _ => zinst _ (List.mem_of_getElem? (i := 3) rfl)
  | 4, _ => zinst _ (List.mem_of_getElem? (i := 4) rfl)
  | 5, _ => zinst _ (List.mem_of_getElem? (i := 5) rfl)
  | 6, _ => zinst _ (List.mem_of_getElem? (i := 6) rfl)
  | 7, _ => zinst _ (List.mem_of_getElem? (i := 7) rfl)
  | 8, _ => zinst _ (List.mem_of_getElem? (i := 8) rfl)
  | 9, _ => zinst _ (List.mem_of_getElem? (i := 9) rfl)
  | n + 10, h => absurd h (by omega)
theorem zini1 : ∀ ci, ci < 10 → Cond.initialized (zC ci) ∈ ALLW
  | 0, _ => zinst _ (List.mem_of_getElem? (i := 10) rfl)
  | 1, _ => zinst _ (List.mem_of_getElem? (i := 11) rfl)
  | 2, _ => zinst _ (List.mem_of_getElem? (i := 12) rfl)
  | 3, _ => zinst _ (List.mem_of_getElem? (i := 13) rfl)
  | 4, _ => zinst _ (List.mem_of_getElem? (i := 14) rfl)
  | 5, _ => zinst _ (List.mem_of_getElem? (i := 15) rfl)
  | 6, _ => zinst _ (List.mem_of_getElem? (i := 16) rfl)
  | 7, _ => zinst _ (List.mem_of_getElem? (i := 17) rfl)
  | 8, _ => zinst _ (List.mem_of_getElem? (i := 18) rfl)
  | 9, _ => zinst _ (List.mem_of_getElem? (i := 19) rfl)
  | n + 10, h => absurd h (by omega)
theorem zarr : ∀ w ∈ [(Cond.arrayClass .int), (Cond.arrayClass .long), (Cond.arrayClass .byte), (Cond.arrayClass .boolean), (Cond.arrayClass .double)], w ∈ ALLW := chkW_ok _ [(1, 79), (6, 98), (1, 47), (2, 114), (8, 203)] (by decide +kernel)
theorem zjdk : ∀ w ∈ [(Cond.native arraycopyName), (Cond.static arraycopyName), (Cond.initialized "java/lang/System"), (Cond.initialized "java/lang/Math"), (Cond.static Lib.Math.min.name), (Cond.static Lib.Math.max.name), (Cond.static Lib.Math.abs.name), (Cond.static nmFloorMod), (Cond.static Lib.MathLoose.min_long.x), (Cond.code Lib.Math.min.name Lib.Math.min.code 2 (some .int)), (Cond.code Lib.Math.max.name Lib.Math.max.code 2 (some .int)), (Cond.code Lib.Math.abs.name Lib.Math.abs.code 1 (some .int)), (Cond.code nmFloorMod prog_19_method_50_code 3 (some .int)), (Cond.code Lib.MathLoose.min_long.x Lib.MathLoose.min_long.code 4 (some .long)), (Cond.instanceMethod Lib.objectInit), (Cond.code Lib.objectInit ⟨#[0xb1]⟩ 1 none)], w ∈ ALLW := chkW_ok _ [(3, 68), (3, 67), (1, 21), (1, 16), (2, 124), (3, 156), (7, 164), (3, 179), (8, 11), (2, 125), (3, 157), (7, 165), (3, 180), (8, 12), (1, 30), (1, 31)] (by decide +kernel)

theorem lkq_mem {own idx : Nat} {x : Nat × Nat × Nat} (h : lkq own idx = some x) : (idx, x) ∈ lk own := by
  unfold lkq at h
  cases hf : (lk own).find? (fun e => e.1 == idx) with
  | none => rw [hf] at h; cases h
  | some q =>
    rw [hf] at h
    have hx : q.2 = x := Option.some.inj h
    have h1 : q.1 = idx := by simpa using List.find?_some hf
    have h2 := List.mem_of_find?_eq_some hf
    rw [← hx, ← h1]
    exact h2
theorem lkq_own {own idx : Nat} {x : Nat × Nat × Nat} (h : lkq own idx = some x) : own < 14 := by
  have := lkq_mem h
  match own, this with
  | n + 14, h => cases h
  | 0, _ | 1, _ | 2, _ | 3, _ | 4, _ | 5, _ | 6, _ | 7, _ | 8, _ | 9, _ | 10, _ | 11, _ | 12, _ | 13, _ => omega
theorem lk_str : ∀ own, own < 14 → ∀ x ∈ lk own, x.2.1 = 7 → ∃ q ∈ strK, q.1 = own ∧ q.2.1 = x.1 ∧ q.2.2.2 = x.2.2.1 := by decide +kernel
theorem fl_at {ad : Nat → Nat} {σ : St} {ci a k : Nat} (hk : k < zN ci) : ((List.range (zN ci)).map (fun j => fvl ad σ ci j a))[k]? = some (fvl ad σ ci k a) := by
  rw [List.getElem?_map, List.getElem?_range hk]
  rfl
theorem inx_in {i : Int32} {n : Nat} (h : inx i n = true) : vp_in i n := by
  unfold inx at h
  simp only [Bool.and_eq_true, decide_eq_true_eq] at h
  intro z
  rcases z with z | z
  · rw [Int32.lt_iff_toInt_lt] at z
    have := h.1
    rw [Int32.le_iff_toInt_le] at this
    omega
  · omega
/-- one object's contents changed -/
def Kp (σ : St) (a : Nat) (σ1 : St) : Prop := σ1.1 = σ.1 ∧ zh σ1 = zh σ ∧ (∀ b, b ≠ a → zI σ1 b = zI σ b ∧ zL σ1 b = zL σ b ∧ zD σ1 b = zD σ b ∧ zR σ1 b = zR σ b) ∧ ∀ j, zR σ1 a j ≤ zn σ
theorem up2_ne {α : Type} {f : Nat → Nat → α} {a k : Nat} {v : α} {b : Nat} (h : b ≠ a) : up2 f a k v b = f b := by
  funext j
  simp [up2, h]
theorem up2_eq {α : Type} {f : Nat → Nat → α} {a k : Nat} {v : α} : up2 f a k v a = fun j => if j = k then v else f a j := by
  funext j
  simp [up2]
theorem Kp.I {L : Nat} {xs : Nat → Int32} {σ : St} (h : wf L xs σ) (a k : Nat) (v : Int32) : Kp σ a (wI σ a k v) := ⟨rfl, rfl, fun _ hb => ⟨up2_ne hb, rfl, rfl, rfl⟩, fun j => h.2.2.2.2.2 a j⟩
theorem Kp.L {L : Nat} {xs : Nat → Int32} {σ : St} (h : wf L xs σ) (a k : Nat) (v : Int64) : Kp σ a (wL σ a k v) := ⟨rfl, rfl, fun _ hb => ⟨rfl, up2_ne hb, rfl, rfl⟩, fun j => h.2.2.2.2.2 a j⟩
theorem Kp.D {L : Nat} {xs : Nat → Int32} {σ : St} (h : wf L xs σ) (a k : Nat) (v : UInt64) : Kp σ a (wD σ a k v) := ⟨rfl, rfl, fun _ hb => ⟨rfl, rfl, up2_ne hb, rfl⟩, fun j => h.2.2.2.2.2 a j⟩
theorem Kp.R {L : Nat} {xs : Nat → Int32} {σ : St} (h : wf L xs σ) (a k v : Nat) (hv : v ≤ zn σ) : Kp σ a (wR σ a k v) := ⟨rfl, rfl, fun _ hb => ⟨rfl, rfl, rfl, up2_ne hb⟩, fun j => by
  show up2 (zR σ) a k v a j ≤ zn σ
  rw [up2_eq]
  dsimp only
  split
  · exact hv
  · exact h.2.2.2.2.2 a j⟩
theorem Kp.n {σ σ1 : St} {a : Nat} (h : Kp σ a σ1) : zn σ1 = zn σ := congrArg (fun q => q.1) h.1
theorem Kp.cu {σ σ1 : St} {a : Nat} (h : Kp σ a σ1) : cu σ1 = cu σ := congrArg (fun (q : Nat × Nat × Nat) => q.1 + q.2.2) h.1
theorem Kp.su {σ σ1 : St} {a : Nat} (h : Kp σ a σ1) : su σ1 = su σ := congrArg (fun (q : Nat × Nat × Nat) => q.2.1 + 6 * q.2.2) h.1
theorem Kp.cel {cid : Nat → ClassId} {ad : Nat → Nat} {σ σ1 : St} {a : Nat} (h : Kp σ a σ1) (b : Nat) (hb : b ≠ a) : cel cid ad σ1 b = cel cid ad σ b := by
  obtain ⟨h1, h2, h3, h4⟩ := h.2.2.1 b hb
  unfold Jvm.Pilot.@@N@@.cel fvl
  rw [h.2.1, h1, h2, h3, h4]
theorem Kp.wf {L : Nat} {xs : Nat → Int32} {σ σ1 : St} {a : Nat} (h : Kp σ a σ1) (hw : wf L xs σ) (h15 : 15 ≤ a) (ha : a < zn σ) : wf L xs σ1 := by
  obtain ⟨g1, g2, ⟨g3, g3'⟩, g4, g5, g6⟩ := hw
  refine ⟨by rw [h.n]; exact g1, fun b hb => ?_, ⟨by rw [h.2.1]; exact g3, fun j => by rw [(h.2.2.1 0 (by omega)).1]; exact g3' j⟩, fun i hi => ⟨by rw [h.2.1]; exact (g4 i hi).1, by rw [h.2.1]; exact (g4 i hi).2.1, fun j => by rw [(h.2.2.1 (8 + i) (by omega)).1]; exact (g4 i hi).2.2 j⟩, fun b hb => by rw [h.2.1]; exact g5 b hb, fun b j => ?_⟩
  · rw [h.n] at hb
    obtain ⟨q1, q2, q3, q4⟩ := h.2.2.1 b (by omega)
    rw [h.2.1, q1, q2, q3, q4]
    exact g2 b hb
  · rw [h.n]
    by_cases hb : b = a
    · subst hb; exact h.2.2.2 j
    · rw [(h.2.2.1 b hb).2.2.2]; exact g6 b j
theorem wf.k15 {L : Nat} {xs : Nat → Int32} {σ : St} (h : wf L xs σ) {a : Nat} (h0 : 18 < (zh σ a).1) : a < 15 := by
  rcases Nat.lt_or_ge a 15 with q | q
  · exact q
  · exact absurd (h.2.2.2.2.1 a q) (by omega)
theorem wf.k19 {L : Nat} {xs : Nat → Int32} {σ : St} (h : wf L xs σ) {a : Nat} (h0 : (zh σ a).1 = 19) : a = 0 := by
  have h1 := h.k15 (a := a) (by omega)
  rcases Nat.eq_zero_or_pos a with q | q
  · exact q
  · obtain ⟨-, -, -, g4, -⟩ := h
    rcases Nat.lt_or_ge a 8 with q2 | q2
    · have := (g4 (a - 1) (by omega)).1
      rw [show 1 + (a - 1) = a by omega] at this
      rw [this] at h0
      omega
    · have := (g4 (a - 8) (by omega)).2.1
      rw [show 8 + (a - 8) = a by omega] at this
      rw [this] at h0
      omega
theorem wf.k20 {L : Nat} {xs : Nat → Int32} {σ : St} (h : wf L xs σ) {a : Nat} (h0 : (zh σ a).1 = 20) : ∃ i, i < 7 ∧ a = 1 + i := by
  have h1 := h.k15 (a := a) (by omega)
  obtain ⟨-, -, ⟨g3, -⟩, g4, -⟩ := h
  rcases Nat.lt_or_ge a 8 with q2 | q2
  · rcases Nat.eq_zero_or_pos a with q | q
    · subst q
      rw [g3] at h0
      omega
    · exact ⟨a - 1, by omega, by omega⟩
  · have := (g4 (a - 8) (by omega)).2.1
    rw [show 8 + (a - 8) = a by omega] at this
    rw [this] at h0
    omega
theorem wf.k21 {L : Nat} {xs : Nat → Int32} {σ : St} (h : wf L xs σ) {a : Nat} (h0 : (zh σ a).1 = 21) : ∃ i, i < 7 ∧ a = 8 + i := by
  have h1 := h.k15 (a := a) (by omega)
  obtain ⟨-, -, ⟨g3, -⟩, g4, -⟩ := h
  rcases Nat.lt_or_ge a 8 with q2 | q2
  · rcases Nat.eq_zero_or_pos a with q | q
    · subst q
      rw [g3] at h0
      omega
    · have := (g4 (a - 1) (by omega)).1
      rw [show 1 + (a - 1) = a by omega] at this
      rw [this] at h0
      omega
  · exact ⟨a - 8, by omega, by omega⟩
theorem rf_ext {n : Nat} {ad ad' : Nat → Nat} (h : ∀ k, k < n → ad' k = ad k) {q : Nat} (hq : q ≤ n) : rf ad' q = rf ad q := by
  match q, hq with
  | 0, _ => rfl
  | j + 1, hq => show some (ad' j) = some (ad j); rw [h j hq]
theorem cel_ext {cid : Nat → ClassId} {L : Nat} {xs : Nat → Int32} {ad ad' : Nat → Nat} {σ : St} (hw : wf L xs σ) (h : ∀ k, k < zn σ → ad' k = ad k) (a : Nat) : cel cid ad' σ a = cel cid ad σ a := by
  unfold cel fvl
  simp only [rf_ext h (hw.2.2.2.2.2 a _)]
theorem wf.new {L : Nat} {xs : Nat → Int32} {σ : St} (h : wf L xs σ) {kd : Nat × Nat} (n : Nat) (hk : kd.1 ≤ 18) : wf L xs (zNew σ kd n) := by
  obtain ⟨g1, g2, ⟨g3, g3'⟩, g4, g5, g6⟩ := h
  have hz : ∀ b, b ≠ zn σ → zh (zNew σ kd n) b = zh σ b := fun b hb => if_neg hb
  refine ⟨Nat.le_succ_of_le g1, fun b hb => ?_, ⟨by rw [hz 0 (by omega)]; exact g3, g3'⟩, fun i hi => ⟨by rw [hz _ (by omega)]; exact (g4 i hi).1, by rw [hz _ (by omega)]; exact (g4 i hi).2.1, (g4 i hi).2.2⟩, fun b hb => ?_, fun b j => Nat.le_succ_of_le (g6 b j)⟩
  · have hb' : zn σ + 1 ≤ b := hb
    rw [hz b (by omega)]
    exact g2 b (by omega)
  · by_cases q : b = zn σ
    · subst q
      show (up1 (zh σ) (zn σ) kd (zn σ)).1 ≤ 18
      simp [up1, hk]
    · rw [hz b q]; exact g5 b hb
theorem wl_new {cid : Nat → ClassId} {L : Nat} {xs : Nat → Int32} {ad : Nat → Nat} {σ : St} (h : wf L xs σ) (kd : Nat × Nat) (n q : Nat) : wl cid (up1 ad (zn σ) q) (zNew σ kd n) = wl cid ad σ ++ [(q, cel cid (up1 ad (zn σ) q) (zNew σ kd n) (zn σ))] := by
  have h15 := h.1
  unfold wl
  rw [show zn (zNew σ kd n) - 15 = (zn σ - 15) + 1 from by show zn σ + 1 - 15 = _; omega, List.range_succ, List.map_append]
  congr 1
  · apply List.map_congr_left
    intro j hj
    rw [List.mem_range] at hj
    have h1 : ∀ k, k < zn σ → up1 ad (zn σ) q k = ad k := fun k hk => if_neg (by omega)
    rw [h1 _ (by omega), ← cel_ext h h1]
    congr 1
    unfold cel fvl
    rw [show zh (zNew σ kd n) (j + 15) = zh σ (j + 15) from if_neg (by omega)]
    rfl
  · simp only [List.map_cons, List.map_nil]
    rw [show zn σ - 15 + 15 = zn σ by omega]
    congr 2
    exact if_pos rfl
section S9
variable {p : Program} {l : Launch} {e : Env} {R : Room} {s : State} {m : MethodId} {args : Array Value} {below : List Frame} {meth : Method} {c : Code} {H : Heap} {locs : List Loc} {cells slots : Nat} {Q : State → Prop}
variable {mi pc : Nat} {dC : Nat → ClassId} {dI : Nat → Nat → Nat} {cid : Nat → ClassId} {base L : Nat} {xs : Nat → Int32} {ad : Nat → Nat} {lo lo1 : Lo} {ls : Array Slot} {st st1 cst : List Value} {σ σ1 : St} {pc1 : Nat}
/-- behind a write: the object a holds what σ1 says -/
theorem Kn.set {pc' a : Nat} {st' cst1 : List Value} {e1 : va_E} {H1 : Heap} {locs1 : List Loc} (kn : Kn p l e R s m args below meth c cells slots Q mi dC dI cid base L xs ad σ (pc') (lo) (st') (σ1)) (X : Sx p l s m args meth c R H locs mi dC dI cid base L xs ad lo ls σ) (h : Kp σ a σ1) (h15 : 15 ≤ a) (ha : a < zn σ) (he : cel cid ad σ1 a = e1)
    (hP : va_P (dC, dI) vwCl ((wl cid ad σ).set (a - 15) (ad a, e1)) H1) (hD : va_D (AA base) ((wl cid ad σ).set (a - 15) (ad a, e1))) (hS : va_S (AA base) s.heap H1 locs1) (hs : vrs (zn σ) ad st' cst1) :
    W p l e R s m args below meth c H1 locs1 cells slots Q (F0 m pc' ls cst1) := by
  subst he
  rw [wl_set h15 h.n h.cel] at hP hD
  have hk := kn H1 locs1 ls ad cst1 ⟨hP, hD, h.wf X.2.2.2.1.2.2 h15 ha⟩ (fun _ _ => rfl) hS (by rw [h.n]; exact X.2.2.2.2.2.1) (by rw [h.n]; exact hs)
  rw [h.cu, h.su, Nat.sub_self, Nat.sub_self, Nat.add_zero, Nat.add_zero] at hk
  exact hk
/-- behind a new object -/
theorem Kn.new {pc' q n : Nat} {kd : Nat × Nat} {st' cst1 : List Value} {H1 : Heap} (kn : Kn p l e R s m args below meth c cells slots Q mi dC dI cid base L xs ad σ (pc') (lo) (.ref (zn σ) :: st') (zNew σ kd n)) (X : Sx p l s m args meth c R H locs mi dC dI cid base L xs ad lo ls σ) (hk : kd.1 ≤ 18) {e1 : va_E} (he : cel cid (up1 ad (zn σ) q) (zNew σ kd n) (zn σ) = e1)
    (hP : va_P (dC, dI) vwCl (wl cid ad σ ++ [(q, e1)]) H1) (hD : va_D (AA base) (wl cid ad σ ++ [(q, e1)])) (hS : va_S (AA base) s.heap H1 locs) (hs : vrs (zn σ) ad st' cst1) :
    W p l e R s m args below meth c H1 locs (cells + 1) (slots + n) Q (F0 m pc' ls (.ref q :: cst1)) := by
  subst he
  have hw := X.2.2.2.1.2.2
  rw [← wl_new hw] at hP hD
  have h1 : ∀ k, k < zn σ → up1 ad (zn σ) q k = ad k := fun k hk => if_neg (by omega)
  have hk := kn H1 locs ls (up1 ad (zn σ) q) (.ref q :: cst1) ⟨hP, hD, hw.new n hk⟩ h1 hS (X.2.2.2.2.2.1.mono h1 (Nat.le_succ _)) ⟨⟨Nat.lt_succ_self _, by rw [show up1 ad (zn σ) q (zn σ) = q from if_pos rfl]⟩, vrs_mono h1 (Nat.le_succ _) hs⟩
  rw [show cells + (cu (zNew σ kd n) - cu σ) = cells + 1 from by show cells + (zn σ + 1 + zt σ - (zn σ + zt σ)) = cells + 1; omega, show slots + (su (zNew σ kd n) - su σ) = slots + n from by show slots + (zs σ + n + 6 * zt σ - (zs σ + 6 * zt σ)) = slots + n; omega] at hk
  exact hk

theorem s_getfield {idx : Nat} (X : Sx p l s m args meth c R H locs mi dC dI cid base L xs ad lo ls σ) (hd : decode (mCd mi) pc = .ok (.getfield idx, 3)) (h : zins mi pc lo st σ (.getfield idx) = some (.inl (pc1, lo1, st1, σ1))) (hs : vrs (zn σ) ad st cst) (kn : Kn p l e R s m args below meth c cells slots Q mi dC dI cid base L xs ad σ (pc1) (lo1) (st1) (σ1)) : W p l e R s m args below meth c H locs cells slots Q (F0 m pc ls cst) := by
  simp only [zins] at h
  split at h
  · rename_i a st2
    obtain ⟨hlt, cs, rfl, hs1⟩ := vrs_ref hs
    split at h
    · rename_i ci k heq
      split at h
      · rename_i hq
        cases h
        obtain ⟨hw, hg⟩ := lkq_ok heq
        have hg : ci < 10 ∧ k < zN ci := by simpa [lSg] using hg
        have hkd : (zh σ a).1 = ci + 1 := by rw [hq]
        obtain ⟨h15, -⟩ := X.2.2.2.1.2.2.own (a := a) (by omega) (by omega)
        exact va_get X.1.1 X.1.2.1 (own := zC (mOw mi)) (ref := zC ci) X.1.2.2.2.2.2.2.2.1 (zin ci hg.1) X.1.2.2.2.2.1 X.2.1.1 X.2.2.2.1.1 (a - 15) ((wl_at h15 hlt).trans (by rw [cel_o hkd hg.1])) (vwCl_at ci hg.1) k hg.2 (X.1.2.2.2.2.2.2.2.1 _ (hw _ (by simp [lWs]))) (by rw [zT_own ci hg.1 k hg.2]; exact fun x h => h) (fl_at hg.2) hd (kn.id X X.2.2.2.2.2.1 ⟨gvl_vr X.2.2.2.1.2.2 ci k a, hs1⟩)
      · cases h
    · rename_i x1 x2 heq
      split at h
      · rename_i hq
        cases h
        obtain ⟨hw, -⟩ := lkq_ok heq
        obtain ⟨i, hi, rfl⟩ := X.2.2.2.1.2.2.k20 hq
        have h3 := (X.2.2.1.2.2.2.1.1 i hi).2.2.1
        refine vk_getf X.1.1 X.1.2.1 h3 X.2.2.2.2.1 X.1.2.2.2.2.1 (X.1.2.2.2.2.2.2.2.1 _ (hw _ (by simp [lWs]))) (fun x h => h) hd (kn.id X X.2.2.2.2.2.1 ⟨⟨?_, ?_⟩, hs1⟩)
        · show 1 + i + 7 < zn σ; have := X.2.2.2.1.2.2.1; omega
        · show Value.ref (ad (8 + i)) = Value.ref (ad (1 + i + 7)); rw [show 1 + i + 7 = 8 + i by omega]
      · cases h
    · rename_i x1 x2 heq
      split at h
      · rename_i hq
        cases h
        obtain ⟨hw, -⟩ := lkq_ok heq
        obtain ⟨i, hi, rfl⟩ := X.2.2.2.1.2.2.k20 hq
        exact vk_getf X.1.1 X.1.2.1 (X.2.2.1.2.2.2.1.1 i hi).2.1 X.2.2.2.2.1 X.1.2.2.2.2.1 (X.1.2.2.2.2.2.2.2.1 _ (hw _ (by simp [lWs]))) (fun x h => h) hd (kn.id X X.2.2.2.2.2.1 ⟨rfl, hs1⟩)
      · cases h
    · cases h
  · cases h

theorem fl_set {ad : Nat → Nat} {σ σ1 : St} {ci a k : Nat} {v : Value} (hk : k < zN ci) (hv : fvl ad σ1 ci k a = v) (ho : ∀ j, j ≠ k → fvl ad σ1 ci j a = fvl ad σ ci j a) : (List.range (zN ci)).map (fun j => fvl ad σ1 ci j a) = ((List.range (zN ci)).map (fun j => fvl ad σ ci j a)).set k v := by
  apply List.ext_getElem?
  intro i
  by_cases hi : i = k
  · subst hi
    rw [fl_at hk, List.getElem?_set_self (by simpa using hk), hv]
  · rw [List.getElem?_set_ne (Ne.symm hi), List.getElem?_map, List.getElem?_map]
    by_cases hl : i < zN ci
    · rw [List.getElem?_range hl]
      simp only [Option.map_some]
      rw [ho i hi]
    · rw [List.getElem?_eq_none (by simpa using hl)]
      rfl
/-- a field's new value, beside the cells -/
theorem pvl_ok {L : Nat} {xs : Nat → Int32} {ad : Nat → Nat} {σ σ1 : St} {ci k a : Nat} {v cv : Value} (hw : wf L xs σ) (h : pvl σ ci k a v = some σ1) (hv : vr (zn σ) ad v cv) : Kp σ a σ1 ∧ fvl ad σ1 ci k a = cv ∧ (∀ j, j ≠ k → fvl ad σ1 ci j a = fvl ad σ ci j a) ∧ (okv (zTY ci k) v = true → narrow (zTY ci k) cv = cv ∧ fits (zTY ci k) cv = true) := by
  unfold pvl at h
  split at h
  · rename_i x hf
    cases h
    have hc : cv = _ := hv
    refine ⟨Kp.I hw a k x, ?_, fun j hj => ?_, fun ho => ?_⟩
    · unfold fvl; rw [hf, hc]; show Value.int (up2 (zI σ) a k x a k) = _; simp [up2]
    · unfold fvl; show (match fso (zTY ci j) with | 0 => Value.int (up2 (zI σ) a k x a j) | 1 => _ | _ => _) = _; simp only [up2, hj, and_false, if_false]; rfl
    · rw [hc]; simpa [okv] using ho
  · rename_i x hf
    cases h
    have hc : cv = _ := hv
    refine ⟨Kp.L hw a k x, ?_, fun j hj => ?_, fun ho => ?_⟩
    · unfold fvl; rw [hf, hc]; show Value.long (up2 (zL σ) a k x a k) = _; simp [up2]
    · unfold fvl; show (match fso (zTY ci j) with | 0 => _ | 1 => Value.long (up2 (zL σ) a k x a j) | _ => _) = _; simp only [up2, hj, and_false, if_false]; rfl
    · rw [hc]; simpa [okv] using ho
  · rename_i b hf
    cases h
    obtain ⟨hb, hc⟩ := (hv : b < zn σ ∧ cv = .ref (ad b))
    refine ⟨Kp.R hw a k (b + 1) hb, ?_, fun j hj => ?_, fun ho => ?_⟩
    · unfold fvl; rw [hf, hc]; show va_rf (rf ad (up2 (zR σ) a k (b + 1) a k)) = _; simp [up2, rf, va_rf]
    · unfold fvl; show (match fso (zTY ci j) with | 0 => _ | 1 => _ | _ => va_rf (rf ad (up2 (zR σ) a k (b + 1) a j))) = _; simp only [up2, hj, and_false, if_false]; rfl
    · rw [hc]
      cases ht : zTY ci k <;> rw [ht] at ho <;> simp_all [okv, narrow, fits]
  · rename_i hf
    cases h
    have hc : cv = _ := hv
    refine ⟨Kp.R hw a k 0 (Nat.zero_le _), ?_, fun j hj => ?_, fun ho => ?_⟩
    · unfold fvl; rw [hf, hc]; show va_rf (rf ad (up2 (zR σ) a k 0 a k)) = _; simp [up2, rf, va_rf]
    · unfold fvl; show (match fso (zTY ci j) with | 0 => _ | 1 => _ | _ => va_rf (rf ad (up2 (zR σ) a k 0 a j))) = _; simp only [up2, hj, and_false, if_false]; rfl
    · rw [hc]; simpa [okv] using ho
  · cases h

theorem s_putfield {idx : Nat} (X : Sx p l s m args meth c R H locs mi dC dI cid base L xs ad lo ls σ) (hd : decode (mCd mi) pc = .ok (.putfield idx, 3)) (h : zins mi pc lo st σ (.putfield idx) = some (.inl (pc1, lo1, st1, σ1))) (hs : vrs (zn σ) ad st cst) (kn : Kn p l e R s m args below meth c cells slots Q mi dC dI cid base L xs ad σ (pc1) (lo1) (st1) (σ1)) : W p l e R s m args below meth c H locs cells slots Q (F0 m pc ls cst) := by
  simp only [zins] at h
  split at h
  · rename_i v a st2
    obtain ⟨cv, cs, rfl, h1, hs1⟩ := vrs_cons hs
    obtain ⟨hlt, cs2, rfl, hs2⟩ := vrs_ref hs1
    split at h
    · rename_i ci k heq
      split at h
      · rename_i hq
        split at h
        · rename_i σ2 hp2
          cases h
          obtain ⟨hw, hg⟩ := lkq_ok heq
          have hg : ci < 10 ∧ k < zN ci := by simpa [lSg] using hg
          have hkd : (zh σ a).1 = ci + 1 := by rw [hq.1]
          obtain ⟨h15, -⟩ := X.2.2.2.1.2.2.own (a := a) (by omega) (by omega)
          obtain ⟨hKp, hv1, hv2, hok⟩ := pvl_ok X.2.2.2.1.2.2 hp2 h1
          obtain ⟨hn, hf⟩ := hok hq.2.1
          have hcel : cel cid ad σ1 a = .inr (ci, ((List.range (zN ci)).map (fun j => fvl ad σ ci j a)).set k cv) := by
            rw [cel_o (by rw [hKp.2.1]; exact hkd) hg.1, fl_set hg.2 hv1 hv2]
          have hsame : ∀ x, s.fieldFound? (zT ci k).1 (zT ci k).2.1 (zT ci k).2.2.1 = some x → s.fieldFound? (zC ci) (zT ci k).2.1 (zT ci k).2.2.1 = some x := by rw [zT_own ci hg.1 k hg.2]; exact fun x h => h
          cases hfin : (zT ci k).2.2.2 with
          | false =>
            exact va_put X.1.1 X.1.2.1 (own := zC (mOw mi)) (ref := zC ci) X.1.2.2.2.2.2.2.2.1 (zin ci hg.1) (zTY ci) (zTY_ok ci hg.1) (zT_nm ci hg.1) X.1.2.2.2.2.1 X.2.1.1 X.2.2.2.1.1 X.2.2.2.1.2.1 X.2.2.2.2.1 (a - 15) ((wl_at h15 hlt).trans (by rw [cel_o hkd hg.1])) (vwCl_at ci hg.1) k hg.2 (X.1.2.2.2.2.2.2.2.1 _ (hw _ (by simp [lWs]))) hsame hfin (zTY_ok ci hg.1 k hg.2) hn hf (by simpa using hg.2) hd (fun H1 locs1 hP hD hS => kn.set X hKp h15 hlt hcel hP hD hS hs2)
          | true =>
            obtain ⟨hk2, hown⟩ := hq.2.2 hfin
            exact va_putF X.1.1 X.1.2.1 (own := zC (mOw mi)) (ref := zC ci) X.1.2.2.2.2.2.2.2.1 (zin ci hg.1) (zTY ci) (zTY_ok ci hg.1) (zT_nm ci hg.1) X.1.2.2.2.2.1 X.2.1.1 X.2.2.2.1.1 X.2.2.2.1.2.1 X.2.2.2.2.1 (a - 15) ((wl_at h15 hlt).trans (by rw [cel_o hkd hg.1])) (vwCl_at ci hg.1) k hg.2 (X.1.2.2.2.2.2.2.2.1 _ (hw _ (by simp [lWs]))) hsame hfin (X.1.2.2.2.2.2.2.2.2.1 hk2) (by rw [zT_own ci hg.1 k hg.2, hown]) (zTY_ok ci hg.1 k hg.2) hn hf (by simpa using hg.2) hd (fun H1 locs1 hP hD hS => kn.set X hKp h15 hlt hcel hP hD hS hs2)
        · cases h
      · cases h
    · cases h
  · cases h

theorem s_iaload (X : Sx p l s m args meth c R H locs mi dC dI cid base L xs ad lo ls σ) (hd : decode (mCd mi) pc = .ok (.iaload, 1)) (h : zins mi pc lo st σ (.iaload) = some (.inl (pc1, lo1, st1, σ1))) (hs : vrs (zn σ) ad st cst) (kn : Kn p l e R s m args below meth c cells slots Q mi dC dI cid base L xs ad σ (pc1) (lo1) (st1) (σ1)) : W p l e R s m args below meth c H locs cells slots Q (F0 m pc ls cst) := by
  simp only [zins] at h
  split at h
  · rename_i i a st2
    split at h
    · rename_i hq
      cases h
      have hin := inx_in hq.2
      obtain ⟨cs, rfl, hs1⟩ := vrs_int hs
      obtain ⟨hlt, cs2, rfl, hs2⟩ := vrs_ref hs1
      rcases hq.1 with hk | hk
      · obtain ⟨h15, -⟩ := X.2.2.2.1.2.2.own (a := a) (by omega) (by omega)
        exact va_iald X.1.1 X.1.2.1 X.2.1.1 X.2.2.2.1.1 (a - 15) 0 ((wl_at h15 hlt).trans (by rw [cel_i hk (Or.inl rfl)])) rfl hin hd (kn.id X X.2.2.2.2.2.1 ⟨rfl, hs2⟩)
      · have ha := X.2.2.2.1.2.2.k19 hk
        subst ha
        rw [X.2.2.2.1.2.2.2.2.1.1] at hin
        refine va_sld X.1.1 X.1.2.1 X.2.2.1.2.1 (Nat.lt_of_lt_of_le X.2.2.1.2.2.1 X.2.2.1.1) (Nat.not_le.mpr X.2.2.1.2.2.1) X.2.2.2.2.1 hin hd (kn.id X X.2.2.2.2.2.1 ⟨?_, hs2⟩)
        show Value.int _ = Value.int _
        rw [X.2.2.2.1.2.2.2.2.1.2]
    · cases h
  · cases h

theorem s_laload (X : Sx p l s m args meth c R H locs mi dC dI cid base L xs ad lo ls σ) (hd : decode (mCd mi) pc = .ok (.laload, 1)) (h : zins mi pc lo st σ (.laload) = some (.inl (pc1, lo1, st1, σ1))) (hs : vrs (zn σ) ad st cst) (kn : Kn p l e R s m args below meth c cells slots Q mi dC dI cid base L xs ad σ (pc1) (lo1) (st1) (σ1)) : W p l e R s m args below meth c H locs cells slots Q (F0 m pc ls cst) := by
  simp only [zins] at h
  split at h
  · rename_i i a st2
    split at h
    · rename_i hq
      cases h
      have hin := inx_in hq.2
      obtain ⟨cs, rfl, hs1⟩ := vrs_int hs
      obtain ⟨hlt, cs2, rfl, hs2⟩ := vrs_ref hs1
      have hk := hq.1
      obtain ⟨h15, -⟩ := X.2.2.2.1.2.2.own (a := a) (by omega) (by omega)
      exact va_lald X.1.1 X.1.2.1 X.2.1.1 X.2.2.2.1.1 (a - 15) 1 ((wl_at h15 hlt).trans (by rw [cel_l hk])) rfl hin hd (kn.id X X.2.2.2.2.2.1 ⟨rfl, hs2⟩)
    · cases h
  · cases h

theorem s_daload (X : Sx p l s m args meth c R H locs mi dC dI cid base L xs ad lo ls σ) (hd : decode (mCd mi) pc = .ok (.daload, 1)) (h : zins mi pc lo st σ (.daload) = some (.inl (pc1, lo1, st1, σ1))) (hs : vrs (zn σ) ad st cst) (kn : Kn p l e R s m args below meth c cells slots Q mi dC dI cid base L xs ad σ (pc1) (lo1) (st1) (σ1)) : W p l e R s m args below meth c H locs cells slots Q (F0 m pc ls cst) := by
  simp only [zins] at h
  split at h
  · rename_i i a st2
    split at h
    · rename_i hq
      cases h
      have hin := inx_in hq.2
      obtain ⟨cs, rfl, hs1⟩ := vrs_int hs
      obtain ⟨hlt, cs2, rfl, hs2⟩ := vrs_ref hs1
      have hk := hq.1
      obtain ⟨h15, -⟩ := X.2.2.2.1.2.2.own (a := a) (by omega) (by omega)
      exact va_dald X.1.1 X.1.2.1 X.2.1.1 X.2.2.2.1.1 (a - 15) 4 ((wl_at h15 hlt).trans (by rw [cel_d hk])) rfl hin hd (kn.id X X.2.2.2.2.2.1 ⟨rfl, hs2⟩)
    · cases h
  · cases h

theorem s_baload (X : Sx p l s m args meth c R H locs mi dC dI cid base L xs ad lo ls σ) (hd : decode (mCd mi) pc = .ok (.baload, 1)) (h : zins mi pc lo st σ (.baload) = some (.inl (pc1, lo1, st1, σ1))) (hs : vrs (zn σ) ad st cst) (kn : Kn p l e R s m args below meth c cells slots Q mi dC dI cid base L xs ad σ (pc1) (lo1) (st1) (σ1)) : W p l e R s m args below meth c H locs cells slots Q (F0 m pc ls cst) := by
  simp only [zins] at h
  split at h
  · rename_i i a st2
    split at h
    · rename_i hq
      cases h
      have hin := inx_in hq.2
      obtain ⟨cs, rfl, hs1⟩ := vrs_int hs
      obtain ⟨hlt, cs2, rfl, hs2⟩ := vrs_ref hs1
      rcases hq.1 with hk | hk | hk
      · obtain ⟨h15, -⟩ := X.2.2.2.1.2.2.own (a := a) (by omega) (by omega)
        exact va_bald X.1.1 X.1.2.1 X.2.1.1 X.2.2.2.1.1 (a - 15) 2 ((wl_at h15 hlt).trans (by rw [cel_i hk (Or.inr (Or.inl rfl))])) rfl hin hd (kn.id X X.2.2.2.2.2.1 ⟨rfl, hs2⟩)
      · obtain ⟨h15, -⟩ := X.2.2.2.1.2.2.own (a := a) (by omega) (by omega)
        exact va_zald X.1.1 X.1.2.1 X.2.1.1 X.2.2.2.1.1 (a - 15) 3 ((wl_at h15 hlt).trans (by rw [cel_i hk (Or.inr (Or.inr rfl))])) rfl hin hd (kn.id X X.2.2.2.2.2.1 ⟨rfl, hs2⟩)
      · obtain ⟨j, hj, rfl⟩ := X.2.2.2.1.2.2.k21 hk
        rw [(X.2.2.2.1.2.2.2.2.2.1 j hj).2.1] at hin
        refine va_tb X.1.1 X.1.2.1 (X.2.2.1.2.2.2.1.1 j hj).2.2.2 X.2.2.2.2.1 hin rfl hd (kn.id X X.2.2.2.2.2.1 ⟨?_, hs2⟩)
        show Value.int _ = Value.int _
        rw [(X.2.2.2.1.2.2.2.2.2.1 j hj).2.2]
    · cases h
  · cases h

theorem s_aaload (X : Sx p l s m args meth c R H locs mi dC dI cid base L xs ad lo ls σ) (hd : decode (mCd mi) pc = .ok (.aaload, 1)) (h : zins mi pc lo st σ (.aaload) = some (.inl (pc1, lo1, st1, σ1))) (hs : vrs (zn σ) ad st cst) (kn : Kn p l e R s m args below meth c cells slots Q mi dC dI cid base L xs ad σ (pc1) (lo1) (st1) (σ1)) : W p l e R s m args below meth c H locs cells slots Q (F0 m pc ls cst) := by
  simp only [zins] at h
  split at h
  · rename_i i a st2
    split at h
    · rename_i hq
      cases h
      have hin := inx_in hq.2
      obtain ⟨cs, rfl, hs1⟩ := vrs_int hs
      obtain ⟨hlt, cs2, rfl, hs2⟩ := vrs_ref hs1
      rcases hq.1 with hk | hk | hk
      · obtain ⟨h15, -⟩ := X.2.2.2.1.2.2.own (a := a) (by omega) (by omega)
        exact va_aldq X.1.1 X.1.2.1 X.2.1.1 X.2.2.2.1.1 (a - 15) 5 ((wl_at h15 hlt).trans (by rw [cel_q hk (Or.inl rfl)])) rfl hin hd (kn.id X X.2.2.2.2.2.1 ⟨rv_vr X.2.2.2.1.2.2 _ _, hs2⟩)
      · obtain ⟨h15, -⟩ := X.2.2.2.1.2.2.own (a := a) (by omega) (by omega)
        exact va_aldq X.1.1 X.1.2.1 X.2.1.1 X.2.2.2.1.1 (a - 15) 6 ((wl_at h15 hlt).trans (by rw [cel_q hk (Or.inr (Or.inl rfl))])) rfl hin hd (kn.id X X.2.2.2.2.2.1 ⟨rv_vr X.2.2.2.1.2.2 _ _, hs2⟩)
      · obtain ⟨h15, -⟩ := X.2.2.2.1.2.2.own (a := a) (by omega) (by omega)
        exact va_aldq X.1.1 X.1.2.1 X.2.1.1 X.2.2.2.1.1 (a - 15) 7 ((wl_at h15 hlt).trans (by rw [cel_q hk (Or.inr (Or.inr rfl))])) rfl hin hd (kn.id X X.2.2.2.2.2.1 ⟨rv_vr X.2.2.2.1.2.2 _ _, hs2⟩)
    · cases h
  · cases h

theorem s_iastore (X : Sx p l s m args meth c R H locs mi dC dI cid base L xs ad lo ls σ) (hd : decode (mCd mi) pc = .ok (.iastore, 1)) (h : zins mi pc lo st σ (.iastore) = some (.inl (pc1, lo1, st1, σ1))) (hs : vrs (zn σ) ad st cst) (kn : Kn p l e R s m args below meth c cells slots Q mi dC dI cid base L xs ad σ (pc1) (lo1) (st1) (σ1)) : W p l e R s m args below meth c H locs cells slots Q (F0 m pc ls cst) := by
  simp only [zins] at h
  split at h
  · rename_i x i a st2
    split at h
    · rename_i hq
      cases h
      have hin := inx_in hq.2
      have hk := hq.1
      obtain ⟨cs, rfl, hs1⟩ := vrs_int hs
      obtain ⟨cs2, rfl, hs2⟩ := vrs_int hs1
      obtain ⟨hlt, cs3, rfl, hs3⟩ := vrs_ref hs2
      obtain ⟨h15, -⟩ := X.2.2.2.1.2.2.own (a := a) (by omega) (by omega)
      exact va_iast X.1.1 X.1.2.1 X.2.1.1 X.2.2.2.1.1 X.2.2.2.1.2.1 X.2.2.2.2.1 (a - 15) 0 ((wl_at h15 hlt).trans (by rw [cel_i hk (Or.inl rfl)])) rfl hin hd (fun H1 locs1 hP hD hS => kn.set X (Kp.I X.2.2.2.1.2.2 a _ x) h15 hlt (by rw [cel_i (show (zh (wI σ a _ x) a).1 = 11 from hk) (Or.inl rfl)]; show _ = Sum.inl (_, _, Sum.inl _); rw [show zI (wI σ a i.toNatClampNeg x) a = upd (zI σ a) i.toNatClampNeg x from up2_eq]; rfl) hP hD hS hs3)
    · cases h
  · cases h

theorem s_lastore (X : Sx p l s m args meth c R H locs mi dC dI cid base L xs ad lo ls σ) (hd : decode (mCd mi) pc = .ok (.lastore, 1)) (h : zins mi pc lo st σ (.lastore) = some (.inl (pc1, lo1, st1, σ1))) (hs : vrs (zn σ) ad st cst) (kn : Kn p l e R s m args below meth c cells slots Q mi dC dI cid base L xs ad σ (pc1) (lo1) (st1) (σ1)) : W p l e R s m args below meth c H locs cells slots Q (F0 m pc ls cst) := by
  simp only [zins] at h
  split at h
  · rename_i x i a st2
    split at h
    · rename_i hq
      cases h
      have hin := inx_in hq.2
      have hk := hq.1
      obtain ⟨cs, rfl, hs1⟩ := vrs_long hs
      obtain ⟨cs2, rfl, hs2⟩ := vrs_int hs1
      obtain ⟨hlt, cs3, rfl, hs3⟩ := vrs_ref hs2
      obtain ⟨h15, -⟩ := X.2.2.2.1.2.2.own (a := a) (by omega) (by omega)
      exact va_last X.1.1 X.1.2.1 X.2.1.1 X.2.2.2.1.1 X.2.2.2.1.2.1 X.2.2.2.2.1 (a - 15) 1 ((wl_at h15 hlt).trans (by rw [cel_l hk])) rfl hin hd (fun H1 locs1 hP hD hS => kn.set X (Kp.L X.2.2.2.1.2.2 a _ x) h15 hlt (by rw [cel_l (show (zh (wL σ a _ x) a).1 = 12 from hk), show zL (wL σ a i.toNatClampNeg x) a = vp_updL (zL σ a) i.toNatClampNeg x from up2_eq]; rfl) hP hD hS hs3)
    · cases h
  · cases h

theorem s_dastore (X : Sx p l s m args meth c R H locs mi dC dI cid base L xs ad lo ls σ) (hd : decode (mCd mi) pc = .ok (.dastore, 1)) (h : zins mi pc lo st σ (.dastore) = some (.inl (pc1, lo1, st1, σ1))) (hs : vrs (zn σ) ad st cst) (kn : Kn p l e R s m args below meth c cells slots Q mi dC dI cid base L xs ad σ (pc1) (lo1) (st1) (σ1)) : W p l e R s m args below meth c H locs cells slots Q (F0 m pc ls cst) := by
  simp only [zins] at h
  split at h
  · rename_i x i a st2
    split at h
    · rename_i hq
      cases h
      have hin := inx_in hq.2
      have hk := hq.1
      obtain ⟨cs, rfl, hs1⟩ := vrs_double hs
      obtain ⟨cs2, rfl, hs2⟩ := vrs_int hs1
      obtain ⟨hlt, cs3, rfl, hs3⟩ := vrs_ref hs2
      obtain ⟨h15, -⟩ := X.2.2.2.1.2.2.own (a := a) (by omega) (by omega)
      exact va_dast X.1.1 X.1.2.1 X.2.1.1 X.2.2.2.1.1 X.2.2.2.1.2.1 X.2.2.2.2.1 (a - 15) 4 ((wl_at h15 hlt).trans (by rw [cel_d hk])) rfl hin hd (fun H1 locs1 hP hD hS => kn.set X (Kp.D X.2.2.2.1.2.2 a _ x) h15 hlt (by rw [cel_d (show (zh (wD σ a _ x) a).1 = 15 from hk), show zD (wD σ a i.toNatClampNeg x) a = vf_upd (zD σ a) i.toNatClampNeg x from up2_eq]; rfl) hP hD hS hs3)
    · cases h
  · cases h

theorem s_bastore (X : Sx p l s m args meth c R H locs mi dC dI cid base L xs ad lo ls σ) (hd : decode (mCd mi) pc = .ok (.bastore, 1)) (h : zins mi pc lo st σ (.bastore) = some (.inl (pc1, lo1, st1, σ1))) (hs : vrs (zn σ) ad st cst) (kn : Kn p l e R s m args below meth c cells slots Q mi dC dI cid base L xs ad σ (pc1) (lo1) (st1) (σ1)) : W p l e R s m args below meth c H locs cells slots Q (F0 m pc ls cst) := by
  simp only [zins] at h
  split at h
  · rename_i x i a st2
    split at h
    · rename_i hq
      have hin := inx_in hq
      obtain ⟨cs, rfl, hs1⟩ := vrs_int hs
      obtain ⟨cs2, rfl, hs2⟩ := vrs_int hs1
      obtain ⟨hlt, cs3, rfl, hs3⟩ := vrs_ref hs2
      split at h
      · rename_i hk
        cases h
        obtain ⟨h15, -⟩ := X.2.2.2.1.2.2.own (a := a) (by omega) (by omega)
        exact va_bast X.1.1 X.1.2.1 X.2.1.1 X.2.2.2.1.1 X.2.2.2.1.2.1 X.2.2.2.2.1 (a - 15) 2 ((wl_at h15 hlt).trans (by rw [cel_i hk (Or.inr (Or.inl rfl))])) rfl hin hd (fun H1 locs1 hP hD hS => kn.set X (Kp.I X.2.2.2.1.2.2 a _ _) h15 hlt (by rw [cel_i (show (zh (wI σ a _ _) a).1 = 13 from hk) (Or.inr (Or.inl rfl)), show zI (wI σ a i.toNatClampNeg (vp_nar .byte x)) a = upd (zI σ a) i.toNatClampNeg (vp_nar .byte x) from up2_eq]; rfl) hP hD hS hs3)
      · split at h
        · rename_i hk
          cases h
          obtain ⟨h15, -⟩ := X.2.2.2.1.2.2.own (a := a) (by omega) (by omega)
          exact va_zast X.1.1 X.1.2.1 X.2.1.1 X.2.2.2.1.1 X.2.2.2.1.2.1 X.2.2.2.2.1 (a - 15) 3 ((wl_at h15 hlt).trans (by rw [cel_i hk (Or.inr (Or.inr rfl))])) rfl hin hd (fun H1 locs1 hP hD hS => kn.set X (Kp.I X.2.2.2.1.2.2 a _ _) h15 hlt (by rw [cel_i (show (zh (wI σ a _ _) a).1 = 14 from hk) (Or.inr (Or.inr rfl)), show zI (wI σ a i.toNatClampNeg (vp_nar .boolean x)) a = upd (zI σ a) i.toNatClampNeg (vp_nar .boolean x) from up2_eq]; rfl) hP hD hS hs3)
        · cases h
    · cases h
  · cases h

theorem s_aastore (X : Sx p l s m args meth c R H locs mi dC dI cid base L xs ad lo ls σ) (hd : decode (mCd mi) pc = .ok (.aastore, 1)) (h : zins mi pc lo st σ (.aastore) = some (.inl (pc1, lo1, st1, σ1))) (hs : vrs (zn σ) ad st cst) (kn : Kn p l e R s m args below meth c cells slots Q mi dC dI cid base L xs ad σ (pc1) (lo1) (st1) (σ1)) : W p l e R s m args below meth c H locs cells slots Q (F0 m pc ls cst) := by
  simp only [zins] at h
  split at h
  · rename_i v i a st2
    split at h
    · rename_i hq
      cases h
      obtain ⟨hk0, hin0, hv⟩ := hq
      have hin := inx_in hin0
      obtain ⟨hvl, cs, rfl, hs1⟩ := vrs_ref hs
      obtain ⟨cs2, rfl, hs2⟩ := vrs_int hs1
      obtain ⟨hlt, cs3, rfl, hs3⟩ := vrs_ref hs2
      rcases hk0 with hk | hk | hk
      · obtain ⟨h15, -⟩ := X.2.2.2.1.2.2.own (a := a) (by omega) (by omega)
        rw [hk] at hv
        have hv' : (zh σ v).1 = 0 + 1 := by rw [hv]; rfl
        obtain ⟨v15, -⟩ := X.2.2.2.1.2.2.own (a := v) (by omega) (by omega)
        exact va_astq X.1.1 X.1.2.1 X.2.1.1 X.2.2.2.1.1 X.2.2.2.1.2.1 X.2.2.2.2.1 (a - 15) 5 (v - 15) 0 (r := (zC 0, zT 0, zN 0)) ((wl_at h15 hlt).trans (by rw [cel_q hk (Or.inl rfl)])) rfl ((wl_at v15 hvl).trans (by rw [cel_o hv' (by omega)])) rfl hin hd (fun H1 locs1 hP hD hS => kn.set X (Kp.R X.2.2.2.1.2.2 a _ (v + 1) hvl) h15 hlt (by
          rw [cel_q (show (zh (wR σ a _ _) a).1 = 16 from hk) (Or.inl rfl)]
          refine congrArg (fun q => Sum.inl (_, _, Sum.inr (Sum.inr (Sum.inr (Sum.inr q))))) (funext fun j => ?_)
          show rf ad (up2 (zR σ) a i.toNatClampNeg (v + 1) a j) = va_up (fun j => rf ad (zR σ a j)) i.toNatClampNeg (some (ad v)) j
          unfold up2 va_up
          by_cases hj : j = i.toNatClampNeg
          · rw [if_pos ⟨rfl, hj⟩, if_pos hj]; rfl
          · rw [if_neg (fun z => hj z.2), if_neg hj]) hP hD hS hs3)
      · obtain ⟨h15, -⟩ := X.2.2.2.1.2.2.own (a := a) (by omega) (by omega)
        rw [hk] at hv
        have hv' : (zh σ v).1 = 1 + 1 := by rw [hv]; rfl
        obtain ⟨v15, -⟩ := X.2.2.2.1.2.2.own (a := v) (by omega) (by omega)
        exact va_astq X.1.1 X.1.2.1 X.2.1.1 X.2.2.2.1.1 X.2.2.2.1.2.1 X.2.2.2.2.1 (a - 15) 6 (v - 15) 1 (r := (zC 1, zT 1, zN 1)) ((wl_at h15 hlt).trans (by rw [cel_q hk (Or.inr (Or.inl rfl))])) rfl ((wl_at v15 hvl).trans (by rw [cel_o hv' (by omega)])) rfl hin hd (fun H1 locs1 hP hD hS => kn.set X (Kp.R X.2.2.2.1.2.2 a _ (v + 1) hvl) h15 hlt (by
          rw [cel_q (show (zh (wR σ a _ _) a).1 = 17 from hk) (Or.inr (Or.inl rfl))]
          refine congrArg (fun q => Sum.inl (_, _, Sum.inr (Sum.inr (Sum.inr (Sum.inr q))))) (funext fun j => ?_)
          show rf ad (up2 (zR σ) a i.toNatClampNeg (v + 1) a j) = va_up (fun j => rf ad (zR σ a j)) i.toNatClampNeg (some (ad v)) j
          unfold up2 va_up
          by_cases hj : j = i.toNatClampNeg
          · rw [if_pos ⟨rfl, hj⟩, if_pos hj]; rfl
          · rw [if_neg (fun z => hj z.2), if_neg hj]) hP hD hS hs3)
      · obtain ⟨h15, -⟩ := X.2.2.2.1.2.2.own (a := a) (by omega) (by omega)
        rw [hk] at hv
        have hv' : (zh σ v).1 = 4 + 1 := by rw [hv]; rfl
        obtain ⟨v15, -⟩ := X.2.2.2.1.2.2.own (a := v) (by omega) (by omega)
        exact va_astq X.1.1 X.1.2.1 X.2.1.1 X.2.2.2.1.1 X.2.2.2.1.2.1 X.2.2.2.2.1 (a - 15) 7 (v - 15) 4 (r := (zC 4, zT 4, zN 4)) ((wl_at h15 hlt).trans (by rw [cel_q hk (Or.inr (Or.inr rfl))])) rfl ((wl_at v15 hvl).trans (by rw [cel_o hv' (by omega)])) rfl hin hd (fun H1 locs1 hP hD hS => kn.set X (Kp.R X.2.2.2.1.2.2 a _ (v + 1) hvl) h15 hlt (by
          rw [cel_q (show (zh (wR σ a _ _) a).1 = 18 from hk) (Or.inr (Or.inr rfl))]
          refine congrArg (fun q => Sum.inl (_, _, Sum.inr (Sum.inr (Sum.inr (Sum.inr q))))) (funext fun j => ?_)
          show rf ad (up2 (zR σ) a i.toNatClampNeg (v + 1) a j) = va_up (fun j => rf ad (zR σ a j)) i.toNatClampNeg (some (ad v)) j
          unfold up2 va_up
          by_cases hj : j = i.toNatClampNeg
          · rw [if_pos ⟨rfl, hj⟩, if_pos hj]; rfl
          · rw [if_neg (fun z => hj z.2), if_neg hj]) hP hD hS hs3)
    · cases h
  · cases h

theorem s_arraylength (X : Sx p l s m args meth c R H locs mi dC dI cid base L xs ad lo ls σ) (hd : decode (mCd mi) pc = .ok (.arraylength, 1)) (h : zins mi pc lo st σ (.arraylength) = some (.inl (pc1, lo1, st1, σ1))) (hs : vrs (zn σ) ad st cst) (kn : Kn p l e R s m args below meth c cells slots Q mi dC dI cid base L xs ad σ (pc1) (lo1) (st1) (σ1)) : W p l e R s m args below meth c H locs cells slots Q (F0 m pc ls cst) := by
  simp only [zins] at h
  split at h
  · rename_i a st2
    split at h
    · rename_i hq
      cases h
      obtain ⟨hlt, cs2, rfl, hs1⟩ := vrs_ref hs
      by_cases h19 : (zh σ a).1 = 19
      · have ha := X.2.2.2.1.2.2.k19 h19
        subst ha
        rw [X.2.2.2.1.2.2.2.2.1.1] at kn
        exact va_slen X.1.1 X.1.2.1 X.2.2.1.2.1 (Nat.lt_of_lt_of_le X.2.2.1.2.2.1 X.2.2.1.1) (Nat.not_le.mpr X.2.2.1.2.2.1) X.2.2.2.2.1 hd (kn.id X X.2.2.2.2.2.1 ⟨rfl, hs1⟩)
      · by_cases h21 : (zh σ a).1 = 21
        · obtain ⟨j, hj, rfl⟩ := X.2.2.2.1.2.2.k21 h21
          rw [(X.2.2.2.1.2.2.2.2.2.1 j hj).2.1] at kn
          exact va_tlen X.1.1 X.1.2.1 (X.2.2.1.2.2.2.1.1 j hj).2.2.2 X.2.2.2.2.1 rfl hd (kn.id X X.2.2.2.2.2.1 ⟨rfl, hs1⟩)
        · obtain ⟨h15, -⟩ := X.2.2.2.1.2.2.own (a := a) (by omega) (by omega)
          have hk : (zh σ a).1 = 11 ∨ (zh σ a).1 = 12 ∨ (zh σ a).1 = 13 ∨ (zh σ a).1 = 14 ∨ (zh σ a).1 = 15 ∨ (zh σ a).1 = 16 ∨ (zh σ a).1 = 17 ∨ (zh σ a).1 = 18 := by omega
          rcases hk with hk | hk | hk | hk | hk | hk | hk | hk
          · exact va_alen (v := Int32.ofNat (zh σ a).2) X.1.1 X.1.2.1 X.2.1.1 X.2.2.2.1.1 (a - 15) 0 ((wl_at h15 hlt).trans (by rw [cel_i hk (Or.inl rfl)])) rfl rfl hd (kn.id X X.2.2.2.2.2.1 ⟨rfl, hs1⟩)
          · exact va_alen (v := Int32.ofNat (zh σ a).2) X.1.1 X.1.2.1 X.2.1.1 X.2.2.2.1.1 (a - 15) 1 ((wl_at h15 hlt).trans (by rw [cel_l hk])) rfl rfl hd (kn.id X X.2.2.2.2.2.1 ⟨rfl, hs1⟩)
          · exact va_alen (v := Int32.ofNat (zh σ a).2) X.1.1 X.1.2.1 X.2.1.1 X.2.2.2.1.1 (a - 15) 2 ((wl_at h15 hlt).trans (by rw [cel_i hk (Or.inr (Or.inl rfl))])) rfl rfl hd (kn.id X X.2.2.2.2.2.1 ⟨rfl, hs1⟩)
          · exact va_alen (v := Int32.ofNat (zh σ a).2) X.1.1 X.1.2.1 X.2.1.1 X.2.2.2.1.1 (a - 15) 3 ((wl_at h15 hlt).trans (by rw [cel_i hk (Or.inr (Or.inr rfl))])) rfl rfl hd (kn.id X X.2.2.2.2.2.1 ⟨rfl, hs1⟩)
          · exact va_alen (v := Int32.ofNat (zh σ a).2) X.1.1 X.1.2.1 X.2.1.1 X.2.2.2.1.1 (a - 15) 4 ((wl_at h15 hlt).trans (by rw [cel_d hk])) rfl rfl hd (kn.id X X.2.2.2.2.2.1 ⟨rfl, hs1⟩)
          · exact va_alen (v := Int32.ofNat (zh σ a).2) X.1.1 X.1.2.1 X.2.1.1 X.2.2.2.1.1 (a - 15) 5 ((wl_at h15 hlt).trans (by rw [cel_q hk (Or.inl rfl)])) rfl rfl hd (kn.id X X.2.2.2.2.2.1 ⟨rfl, hs1⟩)
          · exact va_alen (v := Int32.ofNat (zh σ a).2) X.1.1 X.1.2.1 X.2.1.1 X.2.2.2.1.1 (a - 15) 6 ((wl_at h15 hlt).trans (by rw [cel_q hk (Or.inr (Or.inl rfl))])) rfl rfl hd (kn.id X X.2.2.2.2.2.1 ⟨rfl, hs1⟩)
          · exact va_alen (v := Int32.ofNat (zh σ a).2) X.1.1 X.1.2.1 X.2.1.1 X.2.2.2.1.1 (a - 15) 7 ((wl_at h15 hlt).trans (by rw [cel_q hk (Or.inr (Or.inr rfl))])) rfl rfl hd (kn.id X X.2.2.2.2.2.1 ⟨rfl, hs1⟩)
    · cases h
  · cases h

theorem va_ldcSW {cc : ByteArray} {rest : List Value} (hexec : p.tables.exec = Jvm.exec) (hb : c.code = cc) {own tx : String} {index q : Nat} (hown : s.vm.findClass own = some m.cls) (hZ : vk_R own index tx q s) (hdg : decode cc pc = .ok (.ldc_w index, 3))
    (k : W p l e R s m args below meth c H locs cells slots Q (F0 m (pc + 3) ls (.ref q :: rest))) : W p l e R s m args below meth c H locs cells slots Q (F0 m pc ls rest) := by
  intro T hT X
  obtain ⟨t, a1, b1⟩ := k T hT X
  exact ⟨t, X.ldcStringW hexec hown (text := tx) (a := q) hZ.1 hZ.2 (g := F0 m pc ls rest) rfl (by rw [hb]; exact hdg) t a1, b1⟩

theorem s_ldc {idx : Nat} (X : Sx p l s m args meth c R H locs mi dC dI cid base L xs ad lo ls σ) (hd : decode (mCd mi) pc = .ok (.ldc idx, 2)) (h : zins mi pc lo st σ (.ldc idx) = some (.inl (pc1, lo1, st1, σ1))) (hs : vrs (zn σ) ad st cst) (kn : Kn p l e R s m args below meth c cells slots Q mi dC dI cid base L xs ad σ (pc1) (lo1) (st1) (σ1)) : W p l e R s m args below meth c H locs cells slots Q (F0 m pc ls cst) := by
  simp only [zins] at h
  split at h
  · rename_i j b heq
    cases h
    have hj : j < 7 := by simpa [lSg] using (lkq_ok heq).2
    obtain ⟨q, hq1, hq2, hq3, hq4⟩ := lk_str _ (lkq_own heq) _ (lkq_mem heq) rfl
    have hR := X.2.1.2.2.1 q hq1
    rw [hq2, hq3, hq4] at hR
    exact va_ldcS X.1.1 X.1.2.1 X.1.2.2.2.2.1 hR hd (kn.id X X.2.2.2.2.2.1 ⟨⟨by show 1 + j < zn σ; have := X.2.2.2.1.2.2.1; omega, rfl⟩, hs⟩)
  · rename_i v b heq
    cases h
    exact lv_ldc X.1.1 X.1.2.1 X.1.2.2.2.2.1 (X.1.2.2.2.2.2.2.2.1 _ ((lkq_ok heq).1 _ (by simp [lWs]))) hd (kn.id X X.2.2.2.2.2.1 ⟨rfl, hs⟩)
  · cases h

theorem s_ldc_w {idx : Nat} (X : Sx p l s m args meth c R H locs mi dC dI cid base L xs ad lo ls σ) (hd : decode (mCd mi) pc = .ok (.ldc_w idx, 3)) (h : zins mi pc lo st σ (.ldc_w idx) = some (.inl (pc1, lo1, st1, σ1))) (hs : vrs (zn σ) ad st cst) (kn : Kn p l e R s m args below meth c cells slots Q mi dC dI cid base L xs ad σ (pc1) (lo1) (st1) (σ1)) : W p l e R s m args below meth c H locs cells slots Q (F0 m pc ls cst) := by
  simp only [zins] at h
  split at h
  · rename_i j b heq
    cases h
    have hj : j < 7 := by simpa [lSg] using (lkq_ok heq).2
    obtain ⟨q, hq1, hq2, hq3, hq4⟩ := lk_str _ (lkq_own heq) _ (lkq_mem heq) rfl
    have hR := X.2.1.2.2.1 q hq1
    rw [hq2, hq3, hq4] at hR
    exact va_ldcSW X.1.1 X.1.2.1 X.1.2.2.2.2.1 hR hd (kn.id X X.2.2.2.2.2.1 ⟨⟨by show 1 + j < zn σ; have := X.2.2.2.1.2.2.1; omega, rfl⟩, hs⟩)
  · cases h

theorem s_ldc2_w {idx : Nat} (X : Sx p l s m args meth c R H locs mi dC dI cid base L xs ad lo ls σ) (hd : decode (mCd mi) pc = .ok (.ldc2_w idx, 3)) (h : zins mi pc lo st σ (.ldc2_w idx) = some (.inl (pc1, lo1, st1, σ1))) (hs : vrs (zn σ) ad st cst) (kn : Kn p l e R s m args below meth c cells slots Q mi dC dI cid base L xs ad σ (pc1) (lo1) (st1) (σ1)) : W p l e R s m args below meth c H locs cells slots Q (F0 m pc ls cst) := by
  simp only [zins] at h
  split at h
  · rename_i a b heq
    cases h
    exact lv_ldc2 X.1.1 X.1.2.1 X.1.2.2.2.2.1 (X.1.2.2.2.2.2.2.2.1 _ ((lkq_ok heq).1 _ (by simp [lWs]))) hd (kn.id X X.2.2.2.2.2.1 ⟨rfl, hs⟩)
  · rename_i a b heq
    cases h
    exact lv_ldc2d X.1.1 X.1.2.1 X.1.2.2.2.2.1 (X.1.2.2.2.2.2.2.2.1 _ ((lkq_ok heq).1 _ (by simp [lWs]))) hd (kn.id X X.2.2.2.2.2.1 ⟨rfl, hs⟩)
  · cases h

theorem s_getstatic {idx : Nat} (X : Sx p l s m args meth c R H locs mi dC dI cid base L xs ad lo ls σ) (hd : decode (mCd mi) pc = .ok (.getstatic idx, 3)) (h : zins mi pc lo st σ (.getstatic idx) = some (.inl (pc1, lo1, st1, σ1))) (hs : vrs (zn σ) ad st cst) (kn : Kn p l e R s m args below meth c cells slots Q mi dC dI cid base L xs ad σ (pc1) (lo1) (st1) (σ1)) : W p l e R s m args below meth c H locs cells slots Q (F0 m pc ls cst) := by
  simp only [zins] at h
  split at h
  · rename_i a b heq
    cases h
    exact va_gets X.1.1 X.1.2.1 X.2.2.1.2.2.2.2.1 X.2.2.2.2.1 X.1.2.2.2.2.1 (X.1.2.2.2.2.2.2.2.1 _ ((lkq_ok heq).1 _ (by simp [lWs]))) (fun x h => h) hd (kn.id X X.2.2.2.2.2.1 ⟨rfl, hs⟩)
  · rename_i a b heq
    cases h
    rcases X.2.2.1.2.2.2.2.2.1 with hz | ⟨t, hz⟩
    · exact va_gets X.1.1 X.1.2.1 hz X.2.2.2.2.1 X.1.2.2.2.2.1 (X.1.2.2.2.2.2.2.2.1 _ ((lkq_ok heq).1 _ (by simp [lWs]))) (fun x h => h) hd (kn.id X X.2.2.2.2.2.1 ⟨Or.inl rfl, hs⟩)
    · exact va_gets X.1.1 X.1.2.1 hz X.2.2.2.2.1 X.1.2.2.2.2.1 (X.1.2.2.2.2.2.2.2.1 _ ((lkq_ok heq).1 _ (by simp [lWs]))) (fun x h => h) hd (kn.id X X.2.2.2.2.2.1 ⟨Or.inr ⟨t, rfl⟩, hs⟩)
  · cases h

theorem nofloor (a b : Nat) (h : a = b) : b - a = 0 := by omega
theorem zI_new {L : Nat} {xs : Nat → Int32} {σ : St} (h : wf L xs σ) (kd : Nat × Nat) (n : Nat) : zh (zNew σ kd n) (zn σ) = kd ∧ zI (zNew σ kd n) (zn σ) = (fun _ => 0) ∧ zL (zNew σ kd n) (zn σ) = (fun _ => 0) ∧ zD (zNew σ kd n) (zn σ) = (fun _ => 0) ∧ zR (zNew σ kd n) (zn σ) = (fun _ => 0) := by
  obtain ⟨-, g⟩ := h.2.1 (zn σ) (Nat.le_refl _)
  exact ⟨if_pos rfl, funext fun j => (g j).2.1, funext fun j => (g j).2.2.1, funext fun j => (g j).2.2.2, funext fun j => (g j).1⟩

theorem s_newarray {t : ArrayType} (X : Sx p l s m args meth c R H locs mi dC dI cid base L xs ad lo ls σ) (hd : decode (mCd mi) pc = .ok (.newarray t, 2)) (h : zins mi pc lo st σ (.newarray t) = some (.inl (pc1, lo1, st1, σ1))) (hs : vrs (zn σ) ad st cst) (kn : Kn p l e R s m args below meth c cells slots Q mi dC dI cid base L xs ad σ (pc1) (lo1) (st1) (σ1)) (hrc : cells + (cu σ1 - cu σ) ≤ R.cells) (hrs : slots + (su σ1 - su σ) ≤ R.slots) : W p l e R s m args below meth c H locs cells slots Q (F0 m pc ls cst) := by
  simp only [zins] at h
  split at h
  · rename_i n st2
    split at h
    · rename_i hq
      cases h
      obtain ⟨cs, rfl, hs1⟩ := vrs_int hs
      obtain ⟨h0, h1, h2⟩ := hq
      have hn0 : ¬ n < 0 := by
        intro z
        rw [Int32.lt_iff_toInt_lt] at z
        rw [Int32.le_iff_toInt_le] at h0
        omega
      have e2 : cu (zNew σ (arK t, n.toNatClampNeg) n.toNatClampNeg) - cu σ = 1 := by show zn σ + 1 + zt σ - (zn σ + zt σ) = 1; omega
      have e3 : su (zNew σ (arK t, n.toNatClampNeg) n.toNatClampNeg) - su σ = n.toNatClampNeg := by show zs σ + n.toNatClampNeg + 6 * zt σ - (zs σ + 6 * zt σ) = _; omega
      rw [e2] at hrc
      rw [e3] at hrs
      cases t
      · have e1 : n.toNatClampNeg = n.toNatClampNeg := rfl
        refine va_newa X.1.1 X.1.2.1 (ty := .boolean) (a0 := (n.toNatClampNeg, .inl (fun _ => 0))) (X.1.2.2.2.2.2.2.2.1 _ (zarr _ (List.mem_of_getElem? (i := 3) rfl))) rfl X.2.1.1 X.2.2.2.1.1 X.2.2.2.1.2.1 X.2.2.2.2.1 (fun q hq => Nat.le_trans X.2.2.1.1 hq) (fun cA => rfl) hn0 rfl (by show n.toNatClampNeg * _ ≤ _; simp only [componentBytes]; omega) (by omega) (by omega) hd (fun q cA H1 hK1 hP1 hD1 hS1 => ?_)
        have hcA : cA = cid 14 := by
          have h1 := (hK1.2 8 (cA, .boolean) (by rw [List.getElem?_append_right (Nat.le_of_ble_eq_true rfl)]; rfl)).2
          have h2 := (X.2.1.1.2 3 (cid 14, .boolean) rfl).2
          exact Option.some.inj (h1.symm.trans h2)
        subst hcA
        obtain ⟨z0, z1, z2, z3, z4⟩ := zI_new X.2.2.2.1.2.2 (14, n.toNatClampNeg) n.toNatClampNeg
        have hcel := cel_i (cid := cid) (ad := up1 ad (zn σ) q) (congrArg Prod.fst z0) (Or.inr (Or.inr rfl))
        rw [z0, z1] at hcel
        exact kn.new (kd := (14, n.toNatClampNeg)) X (by show 14 ≤ 18; omega) hcel hP1 hD1 hS1 hs1
      · exact absurd rfl h2
      · exact absurd rfl h2
      · have e1 : n.toNatClampNeg = n.toNatClampNeg := rfl
        refine va_newa X.1.1 X.1.2.1 (ty := .double) (a0 := (n.toNatClampNeg, .inr (.inr (.inr (.inl (fun _ => 0)))))) (X.1.2.2.2.2.2.2.2.1 _ (zarr _ (List.mem_of_getElem? (i := 4) rfl))) rfl X.2.1.1 X.2.2.2.1.1 X.2.2.2.1.2.1 X.2.2.2.2.1 (fun q hq => Nat.le_trans X.2.2.1.1 hq) (fun cA => rfl) hn0 rfl (by show n.toNatClampNeg * _ ≤ _; simp only [componentBytes]; omega) (by omega) (by omega) hd (fun q cA H1 hK1 hP1 hD1 hS1 => ?_)
        have hcA : cA = cid 15 := by
          have h1 := (hK1.2 8 (cA, .double) (by rw [List.getElem?_append_right (Nat.le_of_ble_eq_true rfl)]; rfl)).2
          have h2 := (X.2.1.1.2 4 (cid 15, .double) rfl).2
          exact Option.some.inj (h1.symm.trans h2)
        subst hcA
        obtain ⟨z0, z1, z2, z3, z4⟩ := zI_new X.2.2.2.1.2.2 (15, n.toNatClampNeg) n.toNatClampNeg
        have hcel := cel_d (cid := cid) (ad := up1 ad (zn σ) q) (congrArg Prod.fst z0)
        rw [z0, z3] at hcel
        exact kn.new (kd := (15, n.toNatClampNeg)) X (by show 15 ≤ 18; omega) hcel hP1 hD1 hS1 hs1
      · have e1 : n.toNatClampNeg = n.toNatClampNeg := rfl
        refine va_newa X.1.1 X.1.2.1 (ty := .byte) (a0 := (n.toNatClampNeg, .inl (fun _ => 0))) (X.1.2.2.2.2.2.2.2.1 _ (zarr _ (List.mem_of_getElem? (i := 2) rfl))) rfl X.2.1.1 X.2.2.2.1.1 X.2.2.2.1.2.1 X.2.2.2.2.1 (fun q hq => Nat.le_trans X.2.2.1.1 hq) (fun cA => rfl) hn0 rfl (by show n.toNatClampNeg * _ ≤ _; simp only [componentBytes]; omega) (by omega) (by omega) hd (fun q cA H1 hK1 hP1 hD1 hS1 => ?_)
        have hcA : cA = cid 13 := by
          have h1 := (hK1.2 8 (cA, .byte) (by rw [List.getElem?_append_right (Nat.le_of_ble_eq_true rfl)]; rfl)).2
          have h2 := (X.2.1.1.2 2 (cid 13, .byte) rfl).2
          exact Option.some.inj (h1.symm.trans h2)
        subst hcA
        obtain ⟨z0, z1, z2, z3, z4⟩ := zI_new X.2.2.2.1.2.2 (13, n.toNatClampNeg) n.toNatClampNeg
        have hcel := cel_i (cid := cid) (ad := up1 ad (zn σ) q) (congrArg Prod.fst z0) (Or.inr (Or.inl rfl))
        rw [z0, z1] at hcel
        exact kn.new (kd := (13, n.toNatClampNeg)) X (by show 13 ≤ 18; omega) hcel hP1 hD1 hS1 hs1
      · exact absurd rfl h2
      · have e1 : n.toNatClampNeg = n.toNatClampNeg := rfl
        refine va_newa X.1.1 X.1.2.1 (ty := .int) (a0 := (n.toNatClampNeg, .inl (fun _ => 0))) (X.1.2.2.2.2.2.2.2.1 _ (zarr _ (List.mem_of_getElem? (i := 0) rfl))) rfl X.2.1.1 X.2.2.2.1.1 X.2.2.2.1.2.1 X.2.2.2.2.1 (fun q hq => Nat.le_trans X.2.2.1.1 hq) (fun cA => rfl) hn0 rfl (by show n.toNatClampNeg * _ ≤ _; simp only [componentBytes]; omega) (by omega) (by omega) hd (fun q cA H1 hK1 hP1 hD1 hS1 => ?_)
        have hcA : cA = cid 11 := by
          have h1 := (hK1.2 8 (cA, .int) (by rw [List.getElem?_append_right (Nat.le_of_ble_eq_true rfl)]; rfl)).2
          have h2 := (X.2.1.1.2 0 (cid 11, .int) rfl).2
          exact Option.some.inj (h1.symm.trans h2)
        subst hcA
        obtain ⟨z0, z1, z2, z3, z4⟩ := zI_new X.2.2.2.1.2.2 (11, n.toNatClampNeg) n.toNatClampNeg
        have hcel := cel_i (cid := cid) (ad := up1 ad (zn σ) q) (congrArg Prod.fst z0) (Or.inl rfl)
        rw [z0, z1] at hcel
        exact kn.new (kd := (11, n.toNatClampNeg)) X (by show 11 ≤ 18; omega) hcel hP1 hD1 hS1 hs1
      · have e1 : n.toNatClampNeg = n.toNatClampNeg := rfl
        refine va_newa X.1.1 X.1.2.1 (ty := .long) (a0 := (n.toNatClampNeg, .inr (.inl (fun _ => 0)))) (X.1.2.2.2.2.2.2.2.1 _ (zarr _ (List.mem_of_getElem? (i := 1) rfl))) rfl X.2.1.1 X.2.2.2.1.1 X.2.2.2.1.2.1 X.2.2.2.2.1 (fun q hq => Nat.le_trans X.2.2.1.1 hq) (fun cA => rfl) hn0 rfl (by show n.toNatClampNeg * _ ≤ _; simp only [componentBytes]; omega) (by omega) (by omega) hd (fun q cA H1 hK1 hP1 hD1 hS1 => ?_)
        have hcA : cA = cid 12 := by
          have h1 := (hK1.2 8 (cA, .long) (by rw [List.getElem?_append_right (Nat.le_of_ble_eq_true rfl)]; rfl)).2
          have h2 := (X.2.1.1.2 1 (cid 12, .long) rfl).2
          exact Option.some.inj (h1.symm.trans h2)
        subst hcA
        obtain ⟨z0, z1, z2, z3, z4⟩ := zI_new X.2.2.2.1.2.2 (12, n.toNatClampNeg) n.toNatClampNeg
        have hcel := cel_l (cid := cid) (ad := up1 ad (zn σ) q) (congrArg Prod.fst z0)
        rw [z0, z2] at hcel
        exact kn.new (kd := (12, n.toNatClampNeg)) X (by show 12 ≤ 18; omega) hcel hP1 hD1 hS1 hs1
    · cases h
  · cases h

theorem s_anewarray {idx : Nat} (X : Sx p l s m args meth c R H locs mi dC dI cid base L xs ad lo ls σ) (hd : decode (mCd mi) pc = .ok (.anewarray idx, 3)) (h : zins mi pc lo st σ (.anewarray idx) = some (.inl (pc1, lo1, st1, σ1))) (hs : vrs (zn σ) ad st cst) (kn : Kn p l e R s m args below meth c cells slots Q mi dC dI cid base L xs ad σ (pc1) (lo1) (st1) (σ1)) (hrc : cells + (cu σ1 - cu σ) ≤ R.cells) (hrs : slots + (su σ1 - su σ) ≤ R.slots) : W p l e R s m args below meth c H locs cells slots Q (F0 m pc ls cst) := by
  simp only [zins] at h
  split at h
  · rename_i n st2
    split at h
    · rename_i ci b heq
      split at h
      · rename_i hq
        cases h
        obtain ⟨cs, rfl, hs1⟩ := vrs_int hs
        obtain ⟨h0, h1, h2⟩ := hq
        have hn0 : ¬ n < 0 := by
          intro z
          rw [Int32.lt_iff_toInt_lt] at z
          rw [Int32.le_iff_toInt_le] at h0
          omega
        have e2 : ∀ kd, cu (zNew σ kd n.toNatClampNeg) - cu σ = 1 := fun kd => by show zn σ + 1 + zt σ - (zn σ + zt σ) = 1; omega
        have e3 : ∀ kd, su (zNew σ kd n.toNatClampNeg) - su σ = n.toNatClampNeg := fun kd => by show zs σ + n.toNatClampNeg + 6 * zt σ - (zs σ + 6 * zt σ) = _; omega
        rw [e2] at hrc
        rw [e3] at hrs
        rcases h2 with hci | hci | hci
        · subst hci
          have hw := (lkq_ok heq).1
          refine va_newq X.1.1 X.1.2.1 (C := zC 0) X.1.2.2.2.2.1 (X.1.2.2.2.2.2.2.2.1 _ (hw _ (by simp [lWs]))) (X.2.1.2.1 (Cond.arrayOver (.object (zC 0))) (by decide +kernel)) X.2.1.1 X.2.2.2.1.1 X.2.2.2.1.2.1 X.2.2.2.2.1 (fun q hq => Nat.le_trans X.2.2.1.1 hq) hn0 rfl (by omega) (by omega) (by omega) hd (fun q cA H1 hK1 hP1 hD1 hS1 => ?_)
          have hcA : cA = cid 16 := by
            have h1 := (hK1.2 8 (cA, .object (zC 0)) (by rw [List.getElem?_append_right (Nat.le_of_ble_eq_true rfl)]; rfl)).2
            have h2 := (X.2.1.1.2 5 (cid 16, .object (zC 0)) rfl).2
            obtain ⟨-, -, -, -, -, h1⟩ := h1
            obtain ⟨-, -, -, -, -, h2⟩ := h2
            exact Option.some.inj (h1.symm.trans h2)
          subst hcA
          obtain ⟨z0, z1, z2, z3, z4⟩ := zI_new X.2.2.2.1.2.2 (16, n.toNatClampNeg) n.toNatClampNeg
          have hcel := cel_q (cid := cid) (ad := up1 ad (zn σ) q) (congrArg Prod.fst z0) (Or.inl rfl)
          rw [z0, z4] at hcel
          exact kn.new (kd := (16, n.toNatClampNeg)) X (by show 16 ≤ 18; omega) hcel hP1 hD1 hS1 hs1
        · subst hci
          have hw := (lkq_ok heq).1
          refine va_newq X.1.1 X.1.2.1 (C := zC 1) X.1.2.2.2.2.1 (X.1.2.2.2.2.2.2.2.1 _ (hw _ (by simp [lWs]))) (X.2.1.2.1 (Cond.arrayOver (.object (zC 1))) (by decide +kernel)) X.2.1.1 X.2.2.2.1.1 X.2.2.2.1.2.1 X.2.2.2.2.1 (fun q hq => Nat.le_trans X.2.2.1.1 hq) hn0 rfl (by omega) (by omega) (by omega) hd (fun q cA H1 hK1 hP1 hD1 hS1 => ?_)
          have hcA : cA = cid 17 := by
            have h1 := (hK1.2 8 (cA, .object (zC 1)) (by rw [List.getElem?_append_right (Nat.le_of_ble_eq_true rfl)]; rfl)).2
            have h2 := (X.2.1.1.2 6 (cid 17, .object (zC 1)) rfl).2
            obtain ⟨-, -, -, -, -, h1⟩ := h1
            obtain ⟨-, -, -, -, -, h2⟩ := h2
            exact Option.some.inj (h1.symm.trans h2)
          subst hcA
          obtain ⟨z0, z1, z2, z3, z4⟩ := zI_new X.2.2.2.1.2.2 (17, n.toNatClampNeg) n.toNatClampNeg
          have hcel := cel_q (cid := cid) (ad := up1 ad (zn σ) q) (congrArg Prod.fst z0) (Or.inr (Or.inl rfl))
          rw [z0, z4] at hcel
          exact kn.new (kd := (17, n.toNatClampNeg)) X (by show 17 ≤ 18; omega) hcel hP1 hD1 hS1 hs1
        · subst hci
          have hw := (lkq_ok heq).1
          refine va_newq X.1.1 X.1.2.1 (C := zC 4) X.1.2.2.2.2.1 (X.1.2.2.2.2.2.2.2.1 _ (hw _ (by simp [lWs]))) (X.2.1.2.1 (Cond.arrayOver (.object (zC 4))) (by decide +kernel)) X.2.1.1 X.2.2.2.1.1 X.2.2.2.1.2.1 X.2.2.2.2.1 (fun q hq => Nat.le_trans X.2.2.1.1 hq) hn0 rfl (by omega) (by omega) (by omega) hd (fun q cA H1 hK1 hP1 hD1 hS1 => ?_)
          have hcA : cA = cid 18 := by
            have h1 := (hK1.2 8 (cA, .object (zC 4)) (by rw [List.getElem?_append_right (Nat.le_of_ble_eq_true rfl)]; rfl)).2
            have h2 := (X.2.1.1.2 7 (cid 18, .object (zC 4)) rfl).2
            obtain ⟨-, -, -, -, -, h1⟩ := h1
            obtain ⟨-, -, -, -, -, h2⟩ := h2
            exact Option.some.inj (h1.symm.trans h2)
          subst hcA
          obtain ⟨z0, z1, z2, z3, z4⟩ := zI_new X.2.2.2.1.2.2 (18, n.toNatClampNeg) n.toNatClampNeg
          have hcel := cel_q (cid := cid) (ad := up1 ad (zn σ) q) (congrArg Prod.fst z0) (Or.inr (Or.inr rfl))
          rw [z0, z4] at hcel
          exact kn.new (kd := (18, n.toNatClampNeg)) X (by show 18 ≤ 18; omega) hcel hP1 hD1 hS1 hs1
      · cases h
    · cases h
  · cases h

theorem s_new {idx : Nat} (X : Sx p l s m args meth c R H locs mi dC dI cid base L xs ad lo ls σ) (hd : decode (mCd mi) pc = .ok (.new idx, 3)) (h : zins mi pc lo st σ (.new idx) = some (.inl (pc1, lo1, st1, σ1))) (hs : vrs (zn σ) ad st cst) (kn : Kn p l e R s m args below meth c cells slots Q mi dC dI cid base L xs ad σ (pc1) (lo1) (st1) (σ1)) (hrc : cells + (cu σ1 - cu σ) ≤ R.cells) (hrs : slots + (su σ1 - su σ) ≤ R.slots) : W p l e R s m args below meth c H locs cells slots Q (F0 m pc ls cst) := by
  simp only [zins] at h
  split at h
  · rename_i ci b heq
    cases h
    obtain ⟨hw, hg⟩ := lkq_ok heq
    have hg : ci < 10 := by simpa [lSg] using hg
    have e2 : cu (zNew σ (ci + 1, 0) (zN ci)) - cu σ = 1 := by show zn σ + 1 + zt σ - (zn σ + zt σ) = 1; omega
    have e3 : su (zNew σ (ci + 1, 0) (zN ci)) - su σ = zN ci := by show zs σ + zN ci + 6 * zt σ - (zs σ + 6 * zt σ) = _; omega
    rw [e2] at hrc
    rw [e3] at hrs
    refine va_new X.1.1 X.1.2.1 (own := zC (mOw mi)) (fs := (List.range (zN ci)).map (fun j => fvl ad (zNew σ (ci + 1, 0) (zN ci)) ci j (zn σ))) X.1.2.2.2.2.2.2.2.1 (zin ci hg) (zTY ci) (zTY_ok ci hg) X.1.2.2.2.2.1 (X.1.2.2.2.2.2.2.2.1 _ (hw _ (by simp [lWs]))) (X.1.2.2.2.2.2.2.2.1 _ (zins1 ci hg)) (X.1.2.2.2.2.2.2.2.1 _ (zini1 ci hg)) X.2.1.1 X.2.2.2.1.1 X.2.2.2.1.2.1 X.2.2.2.2.1 (fun q hq => Nat.le_trans X.2.2.1.1 hq) (vwCl_at ci hg) (fun j hj => ?_) hrc hrs hd (fun q H1 hP1 hD1 hS1 => ?_)
    · obtain ⟨-, g1, g2, -, g4⟩ := zI_new X.2.2.2.1.2.2 (ci + 1, 0) (zN ci)
      rw [zTY_def ci hg j hj]
      unfold vp_V
      rw [List.getD_eq_getElem?_getD, fl_at hj]
      unfold fvl
      rw [g1, g2, g4]
      rfl
    · refine kn.new X (by show ci + 1 ≤ 18; omega) ?_ hP1 hD1 hS1 hs
      rw [cel_o (congrArg Prod.fst (zI_new X.2.2.2.1.2.2 (ci + 1, 0) (zN ci)).1) hg]
      refine congrArg (fun q => Sum.inr (ci, q)) (List.map_congr_left fun j hj => ?_)
      obtain ⟨-, g1, g2, -, g4⟩ := zI_new X.2.2.2.1.2.2 (ci + 1, 0) (zN ci)
      unfold fvl
      rw [g1, g2, g4]
      rfl
  · unfold zthrow at h
    split at h
    · split at h <;> cases h
    · cases h
  · cases h

theorem s_objinit {idx : Nat} (X : Sx p l s m args meth c R H locs mi dC dI cid base L xs ad lo ls σ) (hd : decode (mCd mi) pc = .ok (.invokespecial idx, 3)) (h : zins mi pc lo st σ (.invokespecial idx) = some (.inl (pc1, lo1, st1, σ1))) (hs : vrs (zn σ) ad st cst) (kn : Kn p l e R s m args below meth c cells slots Q mi dC dI cid base L xs ad σ (pc1) (lo1) (st1) (σ1)) : W p l e R s m args below meth c H locs cells slots Q (F0 m pc ls cst) := by
  simp only [zins] at h
  split at h
  · exfalso; unfold zcall at h; split at h <;> (repeat' split at h) <;> cases h
  · exfalso; unfold zcall at h; split at h <;> (repeat' split at h) <;> cases h
  · rename_i x1 x2 heq
    split at h
    · rename_i a st2
      split at h
      · rename_i hq
        cases h
        obtain ⟨hlt, cs, rfl, hs1⟩ := vrs_ref hs
        have hc : cats cs ≤ 8 := by rw [vrs_cats hs1]; exact hq.2
        exact W.objInit X.1.1 X.1.2.1 X.1.2.2.2.2.1 (X.1.2.2.2.2.2.2.2.1 _ ((lkq_ok heq).1 _ (by simp [lWs]))) (X.1.2.2.2.2.2.2.2.1 _ (zjdk _ (List.mem_of_getElem? (i := 14) rfl))) (X.1.2.2.2.2.2.2.2.1 _ (zjdk _ (List.mem_of_getElem? (i := 15) rfl))) rfl (by show ls.size = _; rw [X.2.2.2.2.2.1.size, X.1.2.2.2.1]) rfl hd (by have := X.2.2.2.2.2.2.1; omega) (by show 2 * 0 + cats cs + 12 ≤ R.locals; have := X.2.2.2.2.2.2.2; omega) (kn.id X X.2.2.2.2.2.1 hs1)
      · cases h
    · cases h
  · cases h

abbrev cFm : ByteArray := prog_19_method_50_code
set_option maxHeartbeats 1000000 in
theorem fm_Met (l : Launch) (x y : Int32) (hy : ¬ y = 0) : Met l nmFloorMod [Cond.code nmFloorMod cFm 3 (some .int)] { frames := 0, cells := 0, slots := 0, locals := 0 } (fun v _ => v = ([.int x, .int y] : List Value).toArray) (vp_Si (fun r => r = (if (x ^^^ y) < 0 then (if x - x / y * y = 0 then x - x / y * y else x - x / y * y + y) else x - x / y * y))) 0 0 (fun _ => False) := by
  refine va_MetF (cc := cFm) (maxL := 3) (ret := some .int) (by decide +kernel) rfl ?_
  intro p e s m args below meth c s₁ B hml hv
  subst hv
  have hx := B.exec
  have hb := B.bytes
  have hr := B.returns
  have hlocks := B.notSynchronized
  have hl := lv_entry ([.int x, .int y]) (n := 3) (Nat.le_of_ble_eq_true rfl)
  rw [lg_entry_eq]
  generalize (lg_sl ([.int x, .int y]) ++ List.replicate (3 - (lg_sl ([.int x, .int y])).length) Slot.unset).toArray = ls at hl ⊢
  have hl : lv_has ls 3 [(0, .int x), (1, .int y)] := hl
  refine lv_iload_n hx hb (pc := 0) (show decode cFm 0 = .ok (.iload_n 0, 1) by decide +kernel) rfl (lv_at hl 0 rfl) ?_
  refine lv_iload_n hx hb (pc := 1) (show decode cFm 1 = .ok (.iload_n 1, 1) by decide +kernel) rfl (lv_at hl 1 rfl) ?_
  refine lv_irem hx hb (pc := 2) (show decode cFm 2 = .ok (.irem, 1) by decide +kernel) hy ?_
  refine lv_istore_n (lv' := [(2, .int (x - x / y * y)), (0, .int x), (1, .int y)]) hx hb (pc := 3) (show decode cFm 3 = .ok (.istore_n 2, 1) by decide +kernel) rfl hl (by decide) rfl (fun ls hl => ?_)
  have done : ∀ (pc : Nat) (z : Int32), decode cFm pc = .ok (.ireturn, 1) → z = (if (x ^^^ y) < 0 then (if x - x / y * y = 0 then x - x / y * y else x - x / y * y + y) else x - x / y * y) → W p l e (headSpec [Cond.code nmFloorMod cFm 3 (some .int)] { frames := 0, cells := 0, slots := 0, locals := 0 }).room s m ([.int x, .int y] : List Value).toArray below meth c s.heap [] 0 0 (MQ below (vp_Si (fun r => r = (if (x ^^^ y) < 0 then (if x - x / y * y = 0 then x - x / y * y else x - x / y * y + y) else x - x / y * y))) ([.int x, .int y] : List Value).toArray s 0 0 (fun _ => False)) (F0 m pc ls [.int z]) := fun pc z hd hz => W.iret hx hb hr (fun t ht _ => ⟨z, rfl, hz, ht⟩) (fun q hq => by cases hq) hd
  refine lv_iload_n hx hb (pc := 4) (show decode cFm 4 = .ok (.iload_n 0, 1) by decide +kernel) rfl (lv_at hl 1 rfl) ?_
  refine lv_iload_n hx hb (pc := 5) (show decode cFm 5 = .ok (.iload_n 1, 1) by decide +kernel) rfl (lv_at hl 2 rfl) ?_
  refine lv_ixor hx hb (pc := 6) (show decode cFm 6 = .ok (.ixor, 1) by decide +kernel) ?_
  refine lv_if_ge (tgt := 18) hx hb (pc := 7) (show decode cFm 7 = .ok (.ifCond .ge 11, 3) by decide +kernel) (by decide) (fun hc => ?_) (fun hc => ?_)
  · refine lv_iload_n hx hb (pc := 18) (show decode cFm 18 = .ok (.iload_n 2, 1) by decide +kernel) rfl (lv_at hl 0 rfl) ?_
    refine done 19 _ (by decide +kernel) ?_
    rw [if_neg]
    rw [Int32.lt_iff_toInt_lt]
    rw [Int32.le_iff_toInt_le] at hc
    omega
  · have hneg : (x ^^^ y) < 0 := by
      rw [Int32.lt_iff_toInt_lt]
      rw [Int32.le_iff_toInt_le] at hc
      omega
    rw [if_pos hneg] at done
    refine lv_iload_n hx hb (pc := 10) (show decode cFm 10 = .ok (.iload_n 2, 1) by decide +kernel) rfl (lv_at hl 0 rfl) ?_
    refine lv_if_eq (tgt := 18) hx hb (pc := 11) (show decode cFm 11 = .ok (.ifCond .eq 7, 3) by decide +kernel) (by decide) (fun h0 => ?_) (fun h0 => ?_)
    · refine lv_iload_n hx hb (pc := 18) (show decode cFm 18 = .ok (.iload_n 2, 1) by decide +kernel) rfl (lv_at hl 0 rfl) ?_
      rw [if_pos hneg]
      exact done 19 _ (by decide +kernel) (by rw [if_pos h0])
    · refine lv_iload_n hx hb (pc := 14) (show decode cFm 14 = .ok (.iload_n 2, 1) by decide +kernel) rfl (lv_at hl 0 rfl) ?_
      refine lv_iload_n hx hb (pc := 15) (show decode cFm 15 = .ok (.iload_n 1, 1) by decide +kernel) rfl (lv_at hl 2 rfl) ?_
      refine lv_iadd hx hb (pc := 16) (show decode cFm 16 = .ok (.iadd, 1) by decide +kernel) ?_
      rw [if_pos hneg]
      exact done 17 _ (by decide +kernel) (by rw [if_neg h0])

theorem s_static {idx : Nat} (X : Sx p l s m args meth c R H locs mi dC dI cid base L xs ad lo ls σ) (hd : decode (mCd mi) pc = .ok (.invokestatic idx, 3)) (h : zins mi pc lo st σ (.invokestatic idx) = some (.inl (pc1, lo1, st1, σ1))) (hs : vrs (zn σ) ad st cst) (kn : Kn p l e R s m args below meth c cells slots Q mi dC dI cid base L xs ad σ (pc1) (lo1) (st1) (σ1)) (hrc0 : cells ≤ R.cells) (hrs0 : slots ≤ R.slots) : W p l e R s m args below meth c H locs cells slots Q (F0 m pc ls cst) := by
  simp only [zins] at h
  split at h
  · exfalso; unfold zcall at h; split at h <;> (repeat' split at h) <;> cases h
  · rename_i x1 x2 heq
    split at h
    · rename_i n dp d sp a st2
      split at h
      · rename_i hq
        cases h
        obtain ⟨k1, k2, n0, sp0, dp0, b1, b2, hne, hc0⟩ := hq
        obtain ⟨cs0, rfl, hs1⟩ := vrs_int hs
        obtain ⟨cs1, rfl, hs2⟩ := vrs_int hs1
        obtain ⟨hld, cs2, rfl, hs3⟩ := vrs_ref hs2
        obtain ⟨cs3, rfl, hs4⟩ := vrs_int hs3
        obtain ⟨hla, cs4, rfl, hs5⟩ := vrs_ref hs4
        have hc : cats cs4 ≤ 8 := by rw [vrs_cats hs5]; exact hc0
        have pos : ∀ i : Int32, 0 ≤ i → ¬ i < 0 := by
          intro i h0 z
          rw [Int32.lt_iff_toInt_lt] at z
          rw [Int32.le_iff_toInt_le] at h0
          omega
        obtain ⟨a15, -⟩ := X.2.2.2.1.2.2.own (a := a) (by omega) (by omega)
        obtain ⟨d15, -⟩ := X.2.2.2.1.2.2.own (a := d) (by omega) (by omega)
        refine va_copyi X.1.1 X.1.2.1 (by rw [X.2.2.2.2.2.1.size, X.1.2.2.2.1]) X.1.2.2.2.2.1 (X.1.2.2.2.2.2.2.2.1 _ ((lkq_ok heq).1 _ (by simp [lWs]))) (X.1.2.2.2.2.2.2.2.1 _ (zjdk _ (List.mem_of_getElem? (i := 0) rfl))) (X.1.2.2.2.2.2.2.2.1 _ (zjdk _ (List.mem_of_getElem? (i := 1) rfl))) (X.1.2.2.2.2.2.2.2.1 _ (zjdk _ (List.mem_of_getElem? (i := 2) rfl))) X.2.1.1 X.2.2.2.1.1 X.2.2.2.1.2.1 X.2.2.2.2.1 (a - 15) (d - 15) 0 0 ((wl_at a15 hla).trans (by rw [cel_i k1 (Or.inl rfl)])) ((wl_at d15 hld).trans (by rw [cel_i k2 (Or.inl rfl)])) rfl rfl rfl (pos _ sp0) (pos _ dp0) (pos _ n0) b1 b2 (fun i hi => rfl) (by have := X.2.2.2.2.2.2.1; omega) (by show cats cs4 + (nativeFrameWords "java/lang/System" "arraycopy" 5 + 11) ≤ R.locals; rw [show nativeFrameWords "java/lang/System" "arraycopy" 5 = 7 from by decide +kernel]; have := X.2.2.2.2.2.2.2; omega) hd (fun H1 locs1 hP hD hS => ?_)
        refine kn.set X (a := d) ⟨rfl, rfl, fun b hb => ⟨?_, rfl, rfl, rfl⟩, fun j => X.2.2.2.1.2.2.2.2.2.2.2 d j⟩ d15 hld ?_ hP hD hS hs5
        · funext j
          exact if_neg hb
        · refine (cel_i (show (zh (zCpy σ a d _ _ _) d).1 = 11 from k2) (Or.inl rfl)).trans ?_
          refine congrArg (fun q => Sum.inl (_, _, Sum.inl q)) (funext fun j => ?_)
          exact if_pos rfl
      · cases h
    · cases h
  · rename_i x1 x2 heq
    split at h
    · split at h
      · rename_i hq
        cases h
        obtain ⟨cs0, rfl, hs1⟩ := vrs_int hs
        obtain ⟨cs1, rfl, hs2⟩ := vrs_int hs1
        have hc : cats cs1 ≤ 8 := by rw [vrs_cats hs2]; exact hq
        exact va_mmin X.1.1 X.1.2.1 (by rw [X.2.2.2.2.2.1.size, X.1.2.2.2.1]) X.1.2.2.2.2.1 (X.1.2.2.2.2.2.2.2.1 _ ((lkq_ok heq).1 _ (by simp [lWs]))) (X.1.2.2.2.2.2.2.2.1 _ (zjdk _ (List.mem_of_getElem? (i := 4) rfl))) (X.1.2.2.2.2.2.2.2.1 _ (zjdk _ (List.mem_of_getElem? (i := 3) rfl))) (X.1.2.2.2.2.2.2.2.1 _ (zjdk _ (List.mem_of_getElem? (i := 9) rfl))) (by have := X.2.2.2.2.2.2.1; omega) (by show cats cs1 + _ ≤ R.locals; have := X.2.2.2.2.2.2.2; omega) hrc0 hrs0 hd (kn.id X X.2.2.2.2.2.1 ⟨rfl, hs2⟩)
      · cases h
    · cases h
  · rename_i x1 x2 heq
    split at h
    · split at h
      · rename_i hq
        cases h
        obtain ⟨cs0, rfl, hs1⟩ := vrs_int hs
        obtain ⟨cs1, rfl, hs2⟩ := vrs_int hs1
        have hc : cats cs1 ≤ 8 := by rw [vrs_cats hs2]; exact hq
        exact va_mmax X.1.1 X.1.2.1 (by rw [X.2.2.2.2.2.1.size, X.1.2.2.2.1]) X.1.2.2.2.2.1 (X.1.2.2.2.2.2.2.2.1 _ ((lkq_ok heq).1 _ (by simp [lWs]))) (X.1.2.2.2.2.2.2.2.1 _ (zjdk _ (List.mem_of_getElem? (i := 5) rfl))) (X.1.2.2.2.2.2.2.2.1 _ (zjdk _ (List.mem_of_getElem? (i := 3) rfl))) (X.1.2.2.2.2.2.2.2.1 _ (zjdk _ (List.mem_of_getElem? (i := 10) rfl))) (by have := X.2.2.2.2.2.2.1; omega) (by show cats cs1 + _ ≤ R.locals; have := X.2.2.2.2.2.2.2; omega) hrc0 hrs0 hd (kn.id X X.2.2.2.2.2.1 ⟨rfl, hs2⟩)
      · cases h
    · cases h
  · rename_i x1 x2 heq
    split at h
    · split at h
      · rename_i hq
        cases h
        obtain ⟨cs0, rfl, hs1⟩ := vrs_int hs
        have hc : cats cs0 ≤ 8 := by rw [vrs_cats hs1]; exact hq
        exact va_mabs X.1.1 X.1.2.1 (by rw [X.2.2.2.2.2.1.size, X.1.2.2.2.1]) X.1.2.2.2.2.1 (X.1.2.2.2.2.2.2.2.1 _ ((lkq_ok heq).1 _ (by simp [lWs]))) (X.1.2.2.2.2.2.2.2.1 _ (zjdk _ (List.mem_of_getElem? (i := 6) rfl))) (X.1.2.2.2.2.2.2.2.1 _ (zjdk _ (List.mem_of_getElem? (i := 3) rfl))) (X.1.2.2.2.2.2.2.2.1 _ (zjdk _ (List.mem_of_getElem? (i := 11) rfl))) (by have := X.2.2.2.2.2.2.1; omega) (by show cats cs0 + _ ≤ R.locals; have := X.2.2.2.2.2.2.2; omega) hrc0 hrs0 hd (kn.id X X.2.2.2.2.2.1 ⟨rfl, hs1⟩)
      · cases h
    · cases h
  · rename_i x1 x2 heq
    split at h
    · rename_i y x st2
      split at h
      · rename_i hq
        cases h
        obtain ⟨cs0, rfl, hs1⟩ := vrs_int hs
        obtain ⟨cs1, rfl, hs2⟩ := vrs_int hs1
        have hc : cats cs1 ≤ 8 := by rw [vrs_cats hs2]; exact hq.2
        have hcode : Cond.code nmFloorMod cFm 3 (some .int) ∈ ALLW := zjdk _ (List.mem_of_getElem? (i := 12) rfl)
        refine vp_callSi (W.runS (own := zC (mOw mi)) (As := [.int x, .int y]) (rest := cs1) ⟨X.1.1, X.1.2.1, X.1.2.2.2.1, X.1.2.2.2.2.1, X.1.2.2.2.2.2.2.2.1⟩ (fm_Met l x y hq.1) ⟨callB_of 2 X.1.2.2.2.2.2.2.2.1 (fun w hw => by rw [List.mem_singleton.mp hw]; exact ⟨hcode, good_of_word (ALLW_good _ hcode)⟩) rfl rfl rfl (X.1.2.2.2.2.2.2.2.1 _ (zjdk _ (List.mem_of_getElem? (i := 3) rfl))) (X.1.2.2.2.2.2.2.2.1 _ ((lkq_ok heq).1 _ (by simp [lWs]))) (by decide +kernel) ⟨by have := X.2.2.2.2.2.2.1; show 0 + 1 ≤ R.frames; omega, by have := X.2.2.2.2.2.2.2; show 8 + (3 + 11) + 0 ≤ R.locals; omega⟩, X.1.2.2.2.2.2.2.2.1 _ (zjdk _ (List.mem_of_getElem? (i := 7) rfl))⟩ ⟨fun a U g mk q => q, fun U hU hW => rfl⟩ rfl rfl (by show ls.size = _; rw [X.2.2.2.2.2.1.size]) rfl (by show 2 * 0 + cats cs1 ≤ 8; omega) hd ⟨hrc0, hrs0⟩) (fun r hr => ?_)
        subst hr
        exact kn.id X X.2.2.2.2.2.1 ⟨rfl, hs2⟩
      · cases h
    · cases h
  · rename_i x1 x2 heq
    split at h
    · split at h
      · rename_i hq
        cases h
        obtain ⟨cs0, rfl, hs1⟩ := vrs_long hs
        obtain ⟨cs1, rfl, hs2⟩ := vrs_long hs1
        have hc : cats cs1 ≤ 8 := by rw [vrs_cats hs2]; exact hq
        exact va_mmin_long X.1.1 X.1.2.1 (by rw [X.2.2.2.2.2.1.size, X.1.2.2.2.1]) X.1.2.2.2.2.1 (X.1.2.2.2.2.2.2.2.1 _ ((lkq_ok heq).1 _ (by simp [lWs]))) (X.1.2.2.2.2.2.2.2.1 _ (zjdk _ (List.mem_of_getElem? (i := 8) rfl))) (X.1.2.2.2.2.2.2.2.1 _ (zjdk _ (List.mem_of_getElem? (i := 3) rfl))) (X.1.2.2.2.2.2.2.2.1 _ (zjdk _ (List.mem_of_getElem? (i := 13) rfl))) (by have := X.2.2.2.2.2.2.1; omega) (by show cats cs1 + _ ≤ R.locals; have := X.2.2.2.2.2.2.2; omega) hrc0 hrs0 hd (kn.id X X.2.2.2.2.2.1 ⟨rfl, hs2⟩)
      · cases h
    · cases h
  · cases h

end S9
end
section
/-! SOUNDNESS of a step, of its ends; the tables once more -/
def mTa : List zMT := mT_0 ++ (mT_1 ++ (mT_2 ++ (mT_3 ++ (mT_4 ++ (mT_5 ++ (mT_6 ++ (mT_7 ++ mT_8)))))))
theorem mT_app : mT = mTa ++ [mLaw] := by
  simp only [mT, mTa, List.append_assoc]
theorem mTa_len : mTa.length = 334 := by decide +kernel
theorem mLn_in {y : Nat} (h : y < 334) : mLn y ∈ mTa := by
  unfold mLn
  rw [List.getD_eq_getElem?_getD, mT_app, List.getElem?_append_left (by rw [mTa_len]; exact h)]
  rw [List.getElem?_eq_getElem (by rw [mTa_len]; exact h)]
  exact List.getElem_mem _
theorem mLn_ok {y : Nat} (h : y < 334) : (∀ w ∈ mWs (mLn y), w ∈ ALLW) ∧ mSg (mLn y) = true := mT_ok _ (mLn_in h)
theorem mT_init : ∀ m ∈ mTa, m.2.2.2.2.2.1 = 2 → m.2.2.2.1 = none ∧ m.2.2.2.2.2.2.2 = [] := by decide +kernel
theorem mT_virt : ∀ m ∈ mTa, m.2.2.2.2.2.1 = 1 → m.2.2.2.2.2.2.2 = [] := by decide +kernel
theorem mT_hnd : ∀ m ∈ mTa, ∀ q ∈ m.2.2.2.2.2.2.2, q.2.2.2 ≠ 0 ∧ ∃ E, E < 4 ∧ lkq m.2.2.2.2.1 q.2.2.2 = some (6, E, 0) := by decide +kernel
theorem lk_nest : ∀ own, own < 14 → ∀ x ∈ lk own, x.2.1 = 2 → Cond.methodLinkNest (zC own) x.1 (mLn x.2.2.1).1 "LineBalls" ∈ NGW := by decide +kernel
theorem NCP_in : ∀ a, a < 4 → ∀ b, b < 4 → a = b ∨ (zX a, zX b) ∈ NCP := by decide +kernel
theorem cast_in : ∀ a, a < 4 → Cond.castable (zX a) (zX a) ∈ NGW := by decide +kernel
theorem pvl_1 {σ σ1 : St} {ci k a : Nat} {v : Value} (h : pvl σ ci k a v = some σ1) : σ1.1 = σ.1 := by
  unfold pvl at h
  split at h <;> cases h <;> rfl
theorem zcall_no {kd y : Nat} {st : List Value} {σ : St} {q : Cf} (h : zcall kd y st σ = some (.inl q)) : False := by
  unfold zcall at h
  split at h <;> (repeat' split at h) <;> cases h
theorem zthrow_no {mi pc E : Nat} {st : List Value} {σ : St} {q : Cf} (h : zthrow mi pc E st σ = some (.inl q)) : False := by
  unfold zthrow at h
  split at h <;> (repeat' split at h) <;> cases h
theorem zins_grows {mi pc pc1 : Nat} {lo lo1 : Lo} {st st1 : List Value} {σ σ1 : St} {i : Instr} (h : zins mi pc lo st σ i = some (.inl (pc1, lo1, st1, σ1))) : σ1.1 = σ.1 ∨ ∃ kd n, σ1 = zNew σ kd n := by
  cases i
  case aload k => obtain ⟨_, _, _, _, _, _, rfl⟩ := zld_inv h; exact Or.inl rfl
  case aload_n k => obtain ⟨_, _, _, _, _, _, rfl⟩ := zld_inv h; exact Or.inl rfl
  case iload k => obtain ⟨_, _, _, _, _, _, rfl⟩ := zld_inv h; exact Or.inl rfl
  case iload_n k => obtain ⟨_, _, _, _, _, _, rfl⟩ := zld_inv h; exact Or.inl rfl
  case lload k => obtain ⟨_, _, _, _, _, _, rfl⟩ := zld_inv h; exact Or.inl rfl
  case lload_n k => obtain ⟨_, _, _, _, _, _, rfl⟩ := zld_inv h; exact Or.inl rfl
  case fload k => obtain ⟨_, _, _, _, _, _, rfl⟩ := zld_inv h; exact Or.inl rfl
  case dload k => obtain ⟨_, _, _, _, _, _, rfl⟩ := zld_inv h; exact Or.inl rfl
  case astore k => obtain ⟨_, _, _, _, _, _, rfl⟩ := zst_inv h; exact Or.inl rfl
  case astore_n k => obtain ⟨_, _, _, _, _, _, rfl⟩ := zst_inv h; exact Or.inl rfl
  case istore k => obtain ⟨_, _, _, _, _, _, rfl⟩ := zst_inv h; exact Or.inl rfl
  case istore_n k => obtain ⟨_, _, _, _, _, _, rfl⟩ := zst_inv h; exact Or.inl rfl
  case fstore k => obtain ⟨_, _, _, _, _, _, rfl⟩ := zst_inv h; exact Or.inl rfl
  case lstore k => obtain ⟨_, _, _, _, _, _, rfl⟩ := zst2_inv h; exact Or.inl rfl
  case lstore_n k => obtain ⟨_, _, _, _, _, _, rfl⟩ := zst2_inv h; exact Or.inl rfl
  case dstore k => obtain ⟨_, _, _, _, _, _, rfl⟩ := zst2_inv h; exact Or.inl rfl
  case goto off => obtain ⟨_, _, _, rfl⟩ := tgo_inv h; exact Or.inl rfl
  case newarray t =>
    simp only [zins] at h
    (repeat' split at h) <;> cases h
    exact Or.inr ⟨_, _, rfl⟩
  case anewarray k =>
    simp only [zins] at h
    (repeat' split at h) <;> cases h
    all_goals exact Or.inr ⟨_, _, rfl⟩
  case new k =>
    simp only [zins] at h
    split at h
    · cases h; exact Or.inr ⟨_, _, rfl⟩
    · exact (zthrow_no h).elim
    · cases h
  case putfield k =>
    simp only [zins] at h
    split at h
    · split at h
      · split at h
        · split at h
          · rename_i h1
            cases h
            exact Or.inl (pvl_1 h1)
          · cases h
        · cases h
      · cases h
    · cases h
  case invokevirtual k =>
    simp only [zins] at h
    split at h
    · exact (zcall_no h).elim
    · cases h
  case invokespecial k =>
    simp only [zins] at h
    split at h
    · exact (zcall_no h).elim
    · exact (zcall_no h).elim
    · (repeat' split at h) <;> cases h
      exact Or.inl rfl
    · cases h
  case invokestatic k =>
    simp only [zins] at h
    split at h
    · exact (zcall_no h).elim
    all_goals ((repeat' split at h) <;> first | (cases h; done) | (cases h; exact Or.inl rfl))
  all_goals (simp only [zins, reduceCtorEq] at h)
  all_goals (first | (cases h; done) | (cases h; exact Or.inl rfl; done) | ((repeat' split at h) <;> first | (cases h; done) | (cases h; exact Or.inl rfl) | (obtain ⟨_, _, _, rfl⟩ := tgo_inv h; exact Or.inl rfl) | (obtain ⟨_, _, _, _, _, _, rfl⟩ := tbr_inv h; exact Or.inl rfl)))
theorem stp_grows {mi pc pc1 : Nat} {lo lo1 : Lo} {st st1 : List Value} {σ σ1 : St} (h : stp mi pc lo st σ = some (.inl (pc1, lo1, st1, σ1))) : zn σ ≤ zn σ1 ∧ cu σ ≤ cu σ1 ∧ su σ ≤ su σ1 := by
  have key : σ1.1 = σ.1 ∨ ∃ kd n, σ1 = zNew σ kd n := by
    unfold stp at h
    split at h
    · split at h
      · exact zins_grows h
      · split at h
        · exact zins_grows h
        · cases h
    · cases h
  rcases key with h1 | ⟨kd, n, rfl⟩
  · exact ⟨by unfold zn; rw [h1]; exact Nat.le_refl _, by unfold cu zn zt; rw [h1]; exact Nat.le_refl _, by unfold su zs zt; rw [h1]; exact Nat.le_refl _⟩
  · exact ⟨Nat.le_succ _, by show zn σ + zt σ ≤ zn σ + 1 + zt σ; omega, by show zs σ + 6 * zt σ ≤ zs σ + n + 6 * zt σ; omega⟩
section S10
variable {p : Program} {l : Launch} {e : Env} {R : Room} {s : State} {m : MethodId} {args : Array Value} {below : List Frame} {meth : Method} {c : Code} {H : Heap} {locs : List Loc} {cells slots : Nat} {Q : State → Prop}
variable {mi pc : Nat} {dC : Nat → ClassId} {dI : Nat → Nat → Nat} {cid : Nat → ClassId} {base L : Nat} {xs : Nat → Int32} {ad : Nat → Nat} {lo lo1 : Lo} {ls : Array Slot} {st st1 cst : List Value} {σ σ1 : St} {pc1 : Nat}
theorem step_sound (X : Sx p l s m args meth c R H locs mi dC dI cid base L xs ad lo ls σ) (h : stp mi pc lo st σ = some (.inl (pc1, lo1, st1, σ1))) (hs : vrs (zn σ) ad st cst)
    (kn : Kn p l e R s m args below meth c cells slots Q mi dC dI cid base L xs ad σ pc1 lo1 st1 σ1) (hrc : cells + (cu σ1 - cu σ) ≤ R.cells) (hrs : slots + (su σ1 - su σ) ≤ R.slots) : W p l e R s m args below meth c H locs cells slots Q (F0 m pc ls cst) := by
  have hrc0 : cells ≤ R.cells := by omega
  have hrs0 : slots ≤ R.slots := by omega
  unfold stp at h
  split at h
  · rename_i i len hd
    split at h
    · exact s_tableswitch X hd h hs kn
    · split at h
      · rename_i hl
        subst hl
        cases i
        case aload a0 => exact s_aload X hd h hs kn
        case aload_n a0 => exact s_aload_n X hd h hs kn
        case iload a0 => exact s_iload X hd h hs kn
        case iload_n a0 => exact s_iload_n X hd h hs kn
        case lload a0 => exact s_lload X hd h hs kn
        case lload_n a0 => exact s_lload_n X hd h hs kn
        case fload a0 => exact s_fload X hd h hs kn
        case dload a0 => exact s_dload X hd h hs kn
        case astore a0 => exact s_astore X hd h hs kn
        case astore_n a0 => exact s_astore_n X hd h hs kn
        case istore a0 => exact s_istore X hd h hs kn
        case istore_n a0 => exact s_istore_n X hd h hs kn
        case fstore a0 => exact s_fstore X hd h hs kn
        case lstore a0 => exact s_lstore X hd h hs kn
        case lstore_n a0 => exact s_lstore_n X hd h hs kn
        case dstore a0 => exact s_dstore X hd h hs kn
        case iinc a0 a1 => exact s_iinc X hd h hs kn
        case iconst a0 => exact s_iconst X hd h hs kn
        case lconst a0 => exact s_lconst X hd h hs kn
        case bipush a0 => exact s_bipush X hd h hs kn
        case sipush a0 => exact s_sipush X hd h hs kn
        case aconst_null => exact s_aconst_null X hd h hs kn
        case fconst a0 => exact s_fconst X hd h hs kn
        case dconst a0 => exact s_dconst X hd h hs kn
        case iadd => exact s_iadd X hd h hs kn
        case isub => exact s_isub X hd h hs kn
        case imul => exact s_imul X hd h hs kn
        case iand => exact s_iand X hd h hs kn
        case ior => exact s_ior X hd h hs kn
        case ixor => exact s_ixor X hd h hs kn
        case ishl => exact s_ishl X hd h hs kn
        case ishr => exact s_ishr X hd h hs kn
        case ladd => exact s_ladd X hd h hs kn
        case lsub => exact s_lsub X hd h hs kn
        case lcmp => exact s_lcmp X hd h hs kn
        case ineg => exact s_ineg X hd h hs kn
        case i2l => exact s_i2l X hd h hs kn
        case l2i => exact s_l2i X hd h hs kn
        case i2b => exact s_i2b X hd h hs kn
        case i2c => exact s_i2c X hd h hs kn
        case i2d => exact s_i2d X hd h hs kn
        case i2f => exact s_i2f X hd h hs kn
        case l2f => exact s_l2f X hd h hs kn
        case fcmp a0 => exact s_fcmp X hd h hs kn
        case dcmp a0 => exact s_dcmp X hd h hs kn
        case idiv => exact s_idiv X hd h hs kn
        case irem => exact s_irem X hd h hs kn
        case f2d => exact s_f2d X hd h hs kn
        case fdiv => exact s_fdiv X hd h hs kn
        case ddiv => exact s_ddiv X hd h hs kn
        case dup => exact s_dup X hd h hs kn
        case pop => exact s_pop X hd h hs kn
        case dup2 => exact s_dup2 X hd h hs kn
        case goto a0 => exact s_goto X hd h hs kn
        case ifCond a0 a1 => exact s_ifCond X hd h hs kn
        case if_icmp a0 a1 => exact s_if_icmp X hd h hs kn
        case ifnull a0 => exact s_ifnull X hd h hs kn
        case ifnonnull a0 => exact s_ifnonnull X hd h hs kn
        case getfield a0 => exact s_getfield X hd h hs kn
        case putfield a0 => exact s_putfield X hd h hs kn
        case iaload => exact s_iaload X hd h hs kn
        case laload => exact s_laload X hd h hs kn
        case daload => exact s_daload X hd h hs kn
        case baload => exact s_baload X hd h hs kn
        case aaload => exact s_aaload X hd h hs kn
        case iastore => exact s_iastore X hd h hs kn
        case lastore => exact s_lastore X hd h hs kn
        case dastore => exact s_dastore X hd h hs kn
        case bastore => exact s_bastore X hd h hs kn
        case aastore => exact s_aastore X hd h hs kn
        case arraylength => exact s_arraylength X hd h hs kn
        case ldc a0 => exact s_ldc X hd h hs kn
        case ldc_w a0 => exact s_ldc_w X hd h hs kn
        case ldc2_w a0 => exact s_ldc2_w X hd h hs kn
        case getstatic a0 => exact s_getstatic X hd h hs kn
        case newarray a0 => exact s_newarray X hd h hs kn hrc hrs
        case anewarray a0 => exact s_anewarray X hd h hs kn hrc hrs
        case new a0 => exact s_new X hd h hs kn hrc hrs
        case invokespecial a0 => exact s_objinit X hd h hs kn
        case invokestatic a0 => exact s_static X hd h hs kn hrc0 hrs0
        case tableswitch a0 a1 a2 a3 => exact s_tableswitch X hd h hs kn
        case invokevirtual a0 => exfalso; simp only [zins] at h; split at h; exact zcall_no h; cases h
        all_goals (exfalso; simp only [zins, reduceCtorEq] at h)
        all_goals (first | (cases h; done) | ((repeat' split at h) <;> cases h))
      · cases h
  · cases h
end S10
end
section
/-! THROWS: what the tables say of the four exceptions, the ends of a method -/
def xNm : List String := ["java/lang/RuntimeException", "java/lang/Exception"]
def xIc (E : Nat) : Nat := match E with
  | 0 => 66
  | 1 => 245
  | 2 => 162
  | _ => 183
theorem lk8_x : ∀ x ∈ lk 8, x.2.1 = 4 → x.2.2.1 < 4 ∧ x.1 = xIc x.2.2.1 := by decide +kernel
theorem x_fit : ∀ E, E < 4 → Bundle.fit (zX E) = true := by decide +kernel
theorem x_fits : ∀ n ∈ xNm, Bundle.fit n = true := by decide +kernel
theorem x_ini : ∀ E, E < 4 → Cond.initialized (zX E) ∈ tables_1 := by decide +kernel
theorem x_good : ∀ E, E < 4 → ∀ w ∈ (vx_at0 "LineBalls" (xIc E) (zX E) xNm).filter goodWord, w ∈ tables_1 := by decide +kernel
theorem x_ng : ∀ E, E < 4 → ∀ w ∈ (vx_at0 "LineBalls" (xIc E) (zX E) xNm).filter (fun w => !goodWord w), w ∈ NGW := by decide +kernel
theorem x_ot : ∀ E, E < 4 → ∀ w ∈ vx_at0 "LineBalls" (xIc E) (zX E) xNm, vx_ot w = true := by decide +kernel
end
section
/-! SOUNDNESS of the interpreter -/
theorem hnd_some {own : Nat} : ∀ {hs : List (Nat × Nat × Nat × Nat)} {pc E h : Nat}, hnd own hs pc E = some h → ∃ pre q suf, hs = pre ++ q :: suf ∧ covs q pc = true ∧ lkq own q.2.2.2 = some (6, E, 0) ∧ h = q.2.2.1 ∧ ∀ z ∈ pre, covs z pc = false ∨ lkq own z.2.2.2 ≠ some (6, E, 0)
  | [], _, _, _, h => by cases h
  | q :: hs, pc, E, h0, h => by
    unfold hnd at h
    by_cases hq : covs q pc = true ∧ lkq own q.2.2.2 = some (6, E, 0)
    · rw [if_pos hq] at h
      cases h
      exact ⟨[], q, hs, rfl, hq.1, hq.2, rfl, fun z hz => by cases hz⟩
    · rw [if_neg hq] at h
      obtain ⟨pre, q', suf, e1, e2, e3, e4, e5⟩ := hnd_some h
      refine ⟨q :: pre, q', suf, by rw [e1]; rfl, e2, e3, e4, fun z hz => ?_⟩
      rcases List.mem_cons.mp hz with rfl | hz
      · cases hc : covs z pc with
        | false => exact Or.inl rfl
        | true => exact Or.inr fun g => hq ⟨hc, g⟩
      · exact e5 z hz
theorem hnd_none {own : Nat} : ∀ {hs : List (Nat × Nat × Nat × Nat)} {pc E : Nat}, hnd own hs pc E = none → ∀ z ∈ hs, covs z pc = false ∨ lkq own z.2.2.2 ≠ some (6, E, 0)
  | [], _, _, _ => fun z hz => by cases hz
  | q :: hs, pc, E, h => by
    unfold hnd at h
    by_cases hq : covs q pc = true ∧ lkq own q.2.2.2 = some (6, E, 0)
    · rw [if_pos hq] at h
      cases h
    · rw [if_neg hq] at h
      intro z hz
      rcases List.mem_cons.mp hz with rfl | hz
      · cases hc : covs z pc with
        | false => exact Or.inl rfl
        | true => exact Or.inr fun g => hq ⟨hc, g⟩
      · exact hnd_none h z hz
theorem covs_covers (q : Nat × Nat × Nat × Nat) (pc : Nat) : covers ⟨q.1, q.2.1, q.2.2.1, q.2.2.2⟩ pc = covs q pc := by
  first | rfl | simp [covers, covs]
/-- an exception's row that does not take it -/
theorem pass_ok {s : State} {args : Array Value} {mi x pc : Nat} (hNC : ∀ q ∈ NCP, va_Nc q.1 q.2 s) (hts : ∀ w ∈ ALLW, w.before args s = true) (hmi : mLn mi ∈ mTa ∨ mHn mi = []) (hx : x < 4) {pre : List (Nat × Nat × Nat × Nat)} (hp : ∀ z ∈ pre, z ∈ mHn mi) (h : ∀ z ∈ pre, covs z pc = false ∨ lkq (mOw mi) z.2.2.2 ≠ some (6, x, 0)) :
    ∀ z ∈ Jvm.tableOf pre, covers z pc = false ∨ (z.catchType ≠ 0 ∧ ∃ nm : String, (Cond.classLink (zC (mOw mi)) z.catchType nm).before args s = true ∧ va_Nc (zX x) nm s) := by
  intro z hz
  obtain ⟨q, hq, rfl⟩ := List.mem_map.mp hz
  rcases h q hq with h1 | h1
  · exact Or.inl (by rw [covs_covers]; exact h1)
  · rcases hmi with hmi | hmi
    · obtain ⟨g1, E, g2, g3⟩ := mT_hnd _ hmi q (hp q hq)
      refine Or.inr ⟨g1, zX E, hts _ ((lkq_ok (own := mOw mi) g3).1 _ (by simp [lWs])), ?_⟩
      rcases NCP_in x hx E g2 with h2 | h2
      · subst h2; exact absurd g3 h1
      · exact hNC _ h2
    · have := hp q hq
      rw [hmi] at this
      cases this
/-- how a method's code ends, in the interpreter -/
theorem stp_done {mi pc : Nat} {lo : Lo} {st : List Value} {σ σ' : St} {r : Rs} (h : stp mi pc lo st σ = some (.inr (.inl (r, σ')))) :
    (σ' = σ ∧ ((∃ x ty, decode (mCd mi) pc = .ok (.ireturn, 1) ∧ st = [.int x] ∧ mRt mi = some ty ∧ narrow ty (.int x) = .int x ∧ r = .inl (some (.int x))) ∨
      (∃ x, decode (mCd mi) pc = .ok (.lreturn, 1) ∧ st = [.long x] ∧ mRt mi = some .long ∧ r = .inl (some (.long x))) ∨
      (∃ x, decode (mCd mi) pc = .ok (.freturn, 1) ∧ st = [.float x] ∧ mRt mi = some .float ∧ r = .inl (some (.float x))) ∨
      (∃ x, decode (mCd mi) pc = .ok (.dreturn, 1) ∧ st = [.double x] ∧ mRt mi = some .double ∧ r = .inl (some (.double x))) ∨
      (∃ v nm, decode (mCd mi) pc = .ok (.areturn, 1) ∧ st = [v] ∧ (v = .null ∨ ∃ a, v = .ref a) ∧ mRt mi = some (.object nm) ∧ r = .inl (some v)) ∨
      (decode (mCd mi) pc = .ok (.return_, 1) ∧ st = [] ∧ mRt mi = none ∧ r = .inl none))) ∨
    (σ' = zThrow σ ∧ ∃ ik ic E b, r = .inr E ∧ decode (mCd mi) pc = .ok (.new ik, 3) ∧ lkq (mOw mi) ik = some (6, E, b) ∧ decode (mCd mi) (pc + 3) = .ok (.dup, 1) ∧ decode (mCd mi) (pc + 4) = .ok (.invokespecial ic, 3) ∧ decode (mCd mi) (pc + 7) = .ok (.athrow, 1) ∧ mOw mi = 8 ∧ lkq 8 ic = some (4, E, 0) ∧ mHn mi = [] ∧ cats st ≤ 8) := by
  have nld : ∀ k i pc', zld k i pc' lo st σ ≠ some (.inr (.inl (r, σ'))) := by
    intro k i pc' h
    unfold zld nx at h
    (repeat' split at h) <;> cases h
  have nst : ∀ k i pc', zst k i pc' lo st σ ≠ some (.inr (.inl (r, σ'))) := by
    intro k i pc' h
    unfold zst nx at h
    (repeat' split at h) <;> cases h
  have nst2 : ∀ k i pc', zst2 k i pc' lo st σ ≠ some (.inr (.inl (r, σ'))) := by
    intro k i pc' h
    unfold zst2 nx at h
    (repeat' split at h) <;> cases h
  have ntg : ∀ off st', tgo pc off lo st' σ ≠ some (.inr (.inl (r, σ'))) := by
    intro off st' h
    unfold tgo nx at h
    (repeat' split at h) <;> cases h
  have ntb : ∀ off b st', tbr pc off b lo st' σ ≠ some (.inr (.inl (r, σ'))) := by
    intro off b st' h
    unfold tbr nx at h
    (repeat' split at h) <;> cases h
  have nzc : ∀ kd y, zcall kd y st σ ≠ some (.inr (.inl (r, σ'))) := by
    intro kd y h
    unfold zcall at h
    (repeat' split at h) <;> cases h
  unfold stp at h
  split at h
  · rename_i i len hd
    split at h
    · exfalso
      simp only [zins] at h
      (repeat' split at h) <;> first | exact (ntg _ _ h).elim | cases h
    · split at h
      · rename_i hl
        subst hl
        cases i
        case ireturn =>
          simp only [zins] at h
          split at h
          · rename_i x ty hty
            split at h
            · rename_i hq
              cases h
              exact Or.inl ⟨rfl, Or.inl ⟨x, ty, hd, rfl, hty, by rcases hq with hq | hq <;> exact hq.1, rfl⟩⟩
            · cases h
          · cases h
        case lreturn =>
          simp only [zins] at h
          split at h
          · rename_i x hty
            cases h
            exact Or.inl ⟨rfl, Or.inr (Or.inl ⟨x, hd, rfl, hty, rfl⟩)⟩
          · cases h
        case freturn =>
          simp only [zins] at h
          split at h
          · rename_i x hty
            cases h
            exact Or.inl ⟨rfl, Or.inr (Or.inr (Or.inl ⟨x, hd, rfl, hty, rfl⟩))⟩
          · cases h
        case dreturn =>
          simp only [zins] at h
          split at h
          · rename_i x hty
            cases h
            exact Or.inl ⟨rfl, Or.inr (Or.inr (Or.inr (Or.inl ⟨x, hd, rfl, hty, rfl⟩)))⟩
          · cases h
        case areturn =>
          simp only [zins] at h
          split at h
          · rename_i a nm hty
            cases h
            exact Or.inl ⟨rfl, Or.inr (Or.inr (Or.inr (Or.inr (Or.inl ⟨_, nm, hd, rfl, Or.inr ⟨a, rfl⟩, hty, rfl⟩))))⟩
          · rename_i nm hty
            cases h
            exact Or.inl ⟨rfl, Or.inr (Or.inr (Or.inr (Or.inr (Or.inl ⟨_, nm, hd, rfl, Or.inl rfl, hty, rfl⟩))))⟩
          · cases h
        case return_ =>
          simp only [zins] at h
          split at h
          · rename_i hty
            cases h
            exact Or.inl ⟨rfl, Or.inr (Or.inr (Or.inr (Or.inr (Or.inr ⟨hd, rfl, hty, rfl⟩))))⟩
          · cases h
        case new ik =>
          simp only [zins] at h
          split at h
          · cases h
          · rename_i E b heq
            unfold zthrow at h
            split at h
            · rename_i ic h3 h4 h7
              split at h
              · rename_i hq
                cases h
                exact Or.inr ⟨rfl, _, ic, E, b, rfl, hd, heq, h3, h4, h7, hq.1, hq.2.1, hq.2.2.1, hq.2.2.2⟩
              · cases h
            · cases h
          · cases h
        all_goals (exfalso; simp only [zins, reduceCtorEq] at h)
        all_goals (first | (cases h; done) | exact nld _ _ _ h | exact nst _ _ _ h | exact nst2 _ _ _ h | exact ntg _ _ h | ((repeat' split at h) <;> first | (cases h; done) | exact ntg _ _ h | exact ntb _ _ _ h | exact nzc _ _ h))
      · cases h
  · cases h
end
section
/-! SOUNDNESS, whole: what the interpreter answers the machine answers -/
def rmd (d mc ms : Nat) : Room := { frames := d + 8, cells := mc, slots := ms, locals := 40 * d + 120 }
def vrO (n : Nat) (ad : Nat → Nat) (v c : Option Value) : Prop := match v, c with
  | none, none => True
  | some a, some b => vr n ad a b
  | _, _ => False
def PcS (dC : Nat → ClassId) (dI : Nat → Nat → Nat) (cid : Nat → ClassId) (base L : Nat) (xs : Nat → Int32) (ad : Nat → Nat) (σ : St) : State → Prop := fun U => KU dC dI cid ad U ∧ HF base L xs ad U U.heap ∧ Wd dC dI cid base L xs ad σ U.heap
def QcS (dC : Nat → ClassId) (dI : Nat → Nat → Nat) (cid : Nat → ClassId) (base L : Nat) (xs : Nat → Int32) (ad : Nat → Nat) (σ : St) (r : Rs) (σ' : St) : Array Value → State → Outcome → State → Prop := fun _ st o t =>
  ∃ (v cv : Option Value) (ad' : Nat → Nat), r = .inl v ∧ o = .returned cv ∧ vrO (zn σ') ad' v cv ∧ (∀ k, k < zn σ → ad' k = ad k) ∧ Wd dC dI cid base L xs ad' σ' t.heap ∧ va_F (AA base) st t
def XcS (dC : Nat → ClassId) (dI : Nat → Nat → Nat) (cid : Nat → ClassId) (base L : Nat) (xs : Nat → Int32) (ad : Nat → Nat) (σ : St) (r : Rs) (σ' : St) : String → State → State → Prop := fun E st t =>
  ∃ (x : Nat) (ad' : Nat → Nat), r = .inr x ∧ x < 4 ∧ E = zX x ∧ (∀ k, k < zn σ → ad' k = ad k) ∧ Wd dC dI cid base L xs ad' σ' t.heap ∧ va_F (AA base) st t
/-- what is asked at the ends of a run -/
def EndK (p : Program) (l : Launch) (e : Env) (R : Room) (s : State) (m : MethodId) (args : Array Value) (below : List Frame) (meth : Method) (c : Code) (cells slots : Nat) (Q : State → Prop) (mi : Nat) (dC : Nat → ClassId) (dI : Nat → Nat → Nat) (cid : Nat → ClassId) (base L : Nat) (xs : Nat → Int32) (ad : Nat → Nat) (σ : St) (r : Rs) (σ' : St) : Prop :=
  (∀ (pc' : Nat) (lo' : Lo) (st' cst' : List Value) (H' : Heap) (locs' : List Loc) (ls' : Array Slot) (ad' : Nat → Nat) (σ2 : St), stp mi pc' lo' st' σ2 = some (.inr (.inl (r, σ'))) → Wd dC dI cid base L xs ad' σ2 H' → (∀ k, k < zn σ → ad' k = ad k) → va_S (AA base) s.heap H' locs' → LR (zn σ2) ad' lo' ls' (mMx mi) → vrs (zn σ2) ad' st' cst' →
    zn σ ≤ zn σ2 → cu σ ≤ cu σ2 → su σ ≤ su σ2 → W p l e R s m args below meth c H' locs' (cells + (cu σ2 - cu σ)) (slots + (su σ2 - su σ)) Q (F0 m pc' ls' cst')) ∧
  (∀ (x pc' : Nat) (rest : List Value) (q : Addr) (ce : Cell) (H' : Heap) (locs' : List Loc) (ls' : Array Slot) (ad' : Nat → Nat), r = .inr x → x < 4 → hnd (mOw mi) (mHn mi) pc' x = none → Wd dC dI cid base L xs ad' σ' H' → (∀ k, k < zn σ → ad' k = ad k) → va_S (AA base) s.heap H' locs' → H'[q]? = some ce → ce.vm = .none → s.vm.findClass (zX x) = some ce.cls →
    vx_W p l e R s m args below meth c H' locs' (cells + (cu σ' - cu σ)) (slots + (su σ' - su σ)) Q (F0 m pc' ls' rest) q)
def SND (l : Launch) (dC : Nat → ClassId) (dI : Nat → Nat → Nat) (cid : Nat → ClassId) (base L : Nat) (xs : Nat → Int32) (n : Nat) : Prop :=
  ∀ (d mi pc : Nat) (lo : Lo) (st : List Value) (σ : St) (r : Rs) (σ' : St), run n d mi pc lo st σ = some (r, σ') → (mLn mi ∈ mTa ∨ mHn mi = []) →
  ∀ (p : Program) (e : Env) (R : Room) (s : State) (m : MethodId) (args : Array Value) (below : List Frame) (meth : Method) (c : Code) (H : Heap) (locs : List Loc) (cells slots : Nat) (Q : State → Prop) (ad : Nat → Nat) (ls : Array Slot) (cst : List Value),
    Sx p l s m args meth c R H locs mi dC dI cid base L xs ad lo ls σ → vrs (zn σ) ad st cst → d + 8 ≤ R.frames → 40 * d + 120 ≤ R.locals → cells + (cu σ' - cu σ) ≤ R.cells → slots + (su σ' - su σ) ≤ R.slots →
    EndK p l e R s m args below meth c cells slots Q mi dC dI cid base L xs ad σ r σ' → W p l e R s m args below meth c H locs cells slots Q (F0 m pc ls cst)
theorem run_grows : ∀ (n d mi pc : Nat) (lo : Lo) (st : List Value) (σ : St) (r : Rs) (σ' : St), run n d mi pc lo st σ = some (r, σ') → zn σ ≤ zn σ' ∧ cu σ ≤ cu σ' ∧ su σ ≤ su σ' := by
  intro n
  induction n with
  | zero => intro d mi pc lo st σ r σ' h; simp [run] at h
  | succ n ih =>
    intro d mi pc lo st σ r σ' h
    rw [run] at h
    match hs : stp mi pc lo st σ with
    | none => rw [hs] at h; cases h
    | some (.inl (pc', lo', st', σ1)) =>
      rw [hs] at h
      have h1 := stp_grows hs
      have h2 := ih _ _ _ _ _ _ _ _ h
      omega
    | some (.inr (.inl q)) =>
      rw [hs] at h
      cases h
      rcases stp_done hs with ⟨h1, -⟩ | ⟨h1, -⟩
      · rw [h1]; exact ⟨Nat.le_refl _, Nat.le_refl _, Nat.le_refl _⟩
      · rw [h1]
        exact ⟨Nat.le_refl _, by show zn σ + zt σ ≤ zn σ + (zt σ + 1); omega, by show zs σ + 6 * zt σ ≤ zs σ + 6 * (zt σ + 1); omega⟩
    | some (.inr (.inr (y, as, st'))) =>
      rw [hs] at h
      match d, h with
      | 0, h => cases h
      | d' + 1, h =>
        dsimp only at h
        match hc : run n d' y 0 (ent y as) [] σ with
        | none => rw [hc] at h; cases h
        | some (.inl v, σ1) =>
          rw [hc] at h
          have h1 := ih _ _ _ _ _ _ _ _ hc
          have h2 := ih _ _ _ _ _ _ _ _ h
          omega
        | some (.inr E, σ1) =>
          rw [hc] at h
          dsimp only at h
          have h1 := ih _ _ _ _ _ _ _ _ hc
          match hh : hnd (mOw mi) (mHn mi) pc E with
          | none => rw [hh] at h; cases h; exact h1
          | some q =>
            rw [hh] at h
            have h2 := ih _ _ _ _ _ _ _ _ h
            omega
theorem run_x4 : ∀ (n d mi pc : Nat) (lo : Lo) (st : List Value) (σ : St) (x : Nat) (σ' : St), run n d mi pc lo st σ = some (.inr x, σ') → x < 4 := by
  intro n
  induction n with
  | zero => intro d mi pc lo st σ x σ' h; simp [run] at h
  | succ n ih =>
    intro d mi pc lo st σ x σ' h
    rw [run] at h
    match hs : stp mi pc lo st σ with
    | none => rw [hs] at h; cases h
    | some (.inl (pc', lo', st', σ1)) => rw [hs] at h; exact ih _ _ _ _ _ _ _ _ h
    | some (.inr (.inl q)) =>
      rw [hs] at h
      cases h
      rcases stp_done hs with ⟨-, h1⟩ | ⟨-, ik, ic, E, b, h1, -, h2, -⟩
      · rcases h1 with ⟨_, _, -, -, -, -, h⟩ | ⟨_, -, -, -, h⟩ | ⟨_, -, -, -, h⟩ | ⟨_, -, -, -, h⟩ | ⟨_, _, -, -, -, -, h⟩ | ⟨-, -, -, h⟩ <;> cases h
      · cases h1
        simpa [lSg] using (lkq_ok h2).2
    | some (.inr (.inr (y, as, st'))) =>
      rw [hs] at h
      match d, h with
      | 0, h => cases h
      | d' + 1, h =>
        dsimp only at h
        match hc : run n d' y 0 (ent y as) [] σ with
        | none => rw [hc] at h; cases h
        | some (.inl v, σ1) => rw [hc] at h; exact ih _ _ _ _ _ _ _ _ h
        | some (.inr E, σ1) =>
          rw [hc] at h
          dsimp only at h
          match hh : hnd (mOw mi) (mHn mi) pc E with
          | none => rw [hh] at h; cases h; exact ih _ _ _ _ _ _ _ _ hc
          | some q => rw [hh] at h; exact ih _ _ _ _ _ _ _ _ h
section S13
variable {l : Launch} {dC : Nat → ClassId} {dI : Nat → Nat → Nat} {cid : Nat → ClassId} {base L : Nat} {xs : Nat → Int32}
theorem Wd.kept {ad : Nat → Nat} {σ : St} {H H1 : Heap} (h : Wd dC dI cid base L xs ad σ H) (hk : ∀ q : Nat, q < H.size → H1[q]? = H[q]?) : Wd dC dI cid base L xs ad σ H1 :=
  ⟨h.1.kept fun k q hq => hk q.1 (h.1 k q hq).lt, h.2.1, h.2.2⟩
theorem Wd.thr {ad : Nat → Nat} {σ : St} {H : Heap} (h : Wd dC dI cid base L xs ad σ H) : Wd dC dI cid base L xs ad (zThrow σ) H := h
set_option maxHeartbeats 2000000 in
/-- a method's contract, out of the body's soundness -/
theorem met_of_snd {n : Nat} (IH : SND l dC dI cid base L xs n) (hst : l.stackTraces = false) {d y : Nat} (hy : y < 334) {as cargs : List Value} {σ σ' : St} {r : Rs} (h : run n d y 0 (ent y as) [] σ = some (r, σ')) (hent : (entA as).length ≤ mMx y) {ad : Nat → Nat} (hv : vrs (zn σ) ad as cargs) :
    vx_Met l (mLn y).1 (mWd (mLn y) :: ALLW) (rmd d (cu σ' - cu σ) (su σ' - su σ)) (va_Pc cargs (PcS dC dI cid base L xs ad σ)) (QcS dC dI cid base L xs ad σ r σ') (XcS dC dI cid base L xs ad σ r σ') (cu σ' - cu σ) (su σ' - su σ) (AA base) := by
  obtain ⟨hW, hsg⟩ := mLn_ok hy
  simp only [mSg, Bool.and_eq_true, decide_eq_true_eq] at hsg
  obtain ⟨⟨⟨⟨⟨⟨g1, g2⟩, g3⟩, g4⟩, g5⟩, g6⟩, g7⟩ := hsg
  have hgr := run_grows _ _ _ _ _ _ _ _ _ h
  have body : ∀ (p : Program) (e : Env) (s : State) (m : MethodId) (args : Array Value) (below : List Frame) (meth : Method) (c : Code) (s₁ : State), BodyLoose p l (mLn y).1 (headSpec (mWd (mLn y) :: ALLW) (rmd d (cu σ' - cu σ) (su σ' - su σ))) (mCd y) (mMx y) (mRt y) e s m args below meth c s₁ → c.maxLocals = mMx y → c.exceptionTable.toList = Jvm.tableOf (mHn y) → va_Pc cargs (PcS dC dI cid base L xs ad σ) args s →
      W p l e (headSpec (mWd (mLn y) :: ALLW) (rmd d (cu σ' - cu σ) (su σ' - su σ))).room s m args below meth c s.heap [] 0 0 (vx_MQ below (QcS dC dI cid base L xs ad σ r σ') (XcS dC dI cid base L xs ad σ r σ') args s (cu σ' - cu σ) (su σ' - su σ) (AA base)) (entryFrame m args (mMx y)) := by
    intro p e s m args below meth c s₁ B hml htb hP
    obtain ⟨rfl, hKU, hHF, hWd⟩ := hP
    have hts := atoms_spec (ws := mWd (mLn y) :: ALLW) B.pre
    have hts2 : ∀ w ∈ ALLW, w.before cargs.toArray s = true := fun w hw => hts w (List.mem_cons_of_mem _ hw)
    have hown : s.vm.findClass (zC (mOw y)) = some m.cls := by
      have := findClass_of_methodNamed B.named
      rw [g5] at this
      exact this
    have hlocks := B.notSynchronized
    have hCx : Cx p l s m cargs.toArray meth c y := ⟨B.exec, B.bytes, B.returns, hml, hown, hlocks, htb, hts2, fun hk => by rw [(name_of_methodNamed B.named B.method).1]; exact g6 hk, hst⟩
    rw [lg_entry_eq]
    refine IH d y 0 (ent y as) [] σ r σ' h (Or.inl (mLn_in hy)) p e _ s m cargs.toArray below meth c s.heap [] 0 0 _ ad _ [] ⟨hCx, hKU, hHF, hWd, va_S.rf, LR_entry hv hent, ?_, ?_⟩ trivial ?_ ?_ ?_ ?_ ⟨?_, ?_⟩
    · show 8 ≤ d + 8; omega
    · show 120 ≤ 40 * d + 120; omega
    · exact Nat.le_refl _
    · exact Nat.le_refl _
    · show 0 + _ ≤ cu σ' - cu σ; omega
    · show 0 + _ ≤ su σ' - su σ; omega
    · intro pc' lo' st' cst' H' locs' ls' ad' σ2 hs hWd2 hext hS hL hvs hn hc1 hs1
      rw [Nat.zero_add, Nat.zero_add]
      rcases stp_done hs with ⟨rfl, hr⟩ | ⟨rfl, ik, ic, E, b, rfl, d0, hl1, d3, d4, d7, ho, hl2, hhn, hcat⟩
      · refine vx_ret ?_
        have fin : ∀ (v cv : Option Value), r = .inl v → vrO (zn σ') ad' v cv → ∀ t : State, t.heap = H' → s.WarmedH t.vm → QcS dC dI cid base L xs ad σ r σ' cargs.toArray s (.returned cv) t := fun v cv h1 h2 t ht _ => ⟨v, cv, ad', h1, rfl, h2, hext, by rw [ht]; exact hWd2, hS.F ht⟩
        rcases hr with ⟨x, ty, dd, rfl, hty, hnar, rfl⟩ | ⟨x, dd, rfl, hty, rfl⟩ | ⟨x, dd, rfl, hty, rfl⟩ | ⟨x, dd, rfl, hty, rfl⟩ | ⟨v, nm, dd, rfl, hv1, hty, rfl⟩ | ⟨dd, rfl, hty, rfl⟩
        · obtain ⟨cs, rfl, h2⟩ := vrs_int hvs
          rw [vrs_nil h2]
          exact W.zret B.exec B.bytes (B.returns.trans hty) hnar (fin _ _ rfl rfl) hS.2.2 dd hlocks
        · obtain ⟨cs, rfl, h2⟩ := vrs_long hvs
          rw [vrs_nil h2]
          exact W.lret B.exec B.bytes (B.returns.trans hty) (fin _ _ rfl rfl) hS.2.2 dd hlocks
        · obtain ⟨cs, rfl, h2⟩ := vrs_float hvs
          rw [vrs_nil h2]
          exact W.fret B.exec B.bytes (B.returns.trans hty) (fin _ _ rfl rfl) hS.2.2 dd hlocks
        · obtain ⟨cs, rfl, h2⟩ := vrs_double hvs
          rw [vrs_nil h2]
          exact W.dret B.exec B.bytes (B.returns.trans hty) (fin _ _ rfl rfl) hS.2.2 dd hlocks
        · obtain ⟨cv, cs, rfl, h1, h2⟩ := vrs_cons hvs
          rw [vrs_nil h2]
          refine W.aret B.exec B.bytes (B.returns.trans hty) (Or.inl ⟨nm, rfl⟩) ?_ (fin _ _ rfl h1) hS.2.2 dd hlocks
          rcases hv1 with rfl | ⟨a, rfl⟩
          · exact Or.inl h1
          · exact Or.inr ⟨_, h1.2⟩
        · rw [vrs_nil hvs]
          exact W.vret B.exec B.bytes (B.returns.trans hty) (fin _ _ rfl trivial) hS.2.2 dd hlocks
      · obtain ⟨hE, hic⟩ := lk8_x _ (lkq_mem hl2) rfl
        have hE : E < 4 := hE
        have hic : ic = xIc E := hic
        subst hic
        have hzc : zC (mOw y) = "LineBalls" := by rw [ho]; rfl
        have hcl := (lkq_ok hl1).1 (.classLink (zC (mOw y)) ik (zX E)) (by simp [lWs])
        have in1 : ∀ w ∈ tables_1, w ∈ lw_tbl := fun w hw => List.mem_append_right _ hw
        have hini : Cond.initialized (zX E) ∈ ALLW := ALLW_in (in1 _ (x_ini E hE)) rfl
        have hng : ∀ w ∈ NGW, w.before cargs.toArray s = true := fun w hw => by
          have hz := hKU.2.1 w hw
          have hon := NGW_ok w hw
          match w, hon, hz with
          | .methodLinkNest _ _ _ _, _, hz => exact va_Nw.use rfl hz
          | .castable _ _, _, hz => exact va_Nw.use rfl hz
          | .declares _, _, hz => exact va_Nw.use rfl hz
          | .arrayOver (.object _), _, hz => exact va_AO.use hz
        refine vx_throw0 B.exec B.bytes hst (own := zC (mOw y)) (cls := zX E) (names := xNm) (A := AA base) hown (x_fit E hE) x_fits (hts2 _ hcl) (hts2 _ hini) ?_ ?_ hHF.2.2.2.2.2.2.1 hHF.2.2.2.2.2.2.2 hS (by rw [hL.size, hml]) d0 d3 d4 d7 ?_ ?_ ?_ ?_ ?_ hlocks ?_ hS.2.2 ?_ ?_
        · rw [hzc]
          exact vx_hat (fun w hw => hts2 _ (ALLW_in (in1 _ (x_good E hE w hw)) (List.mem_filter.mp hw).2)) (x_ng E hE) hng
        · intro w hw
          rcases List.mem_cons.mp hw with rfl | hw
          · rfl
          · rcases List.mem_cons.mp hw with rfl | hw
            · rfl
            · rw [hzc] at hw
              exact x_ot E hE w hw
        · rw [htb, hhn]
          intro x hx
          cases hx
        · show 2 + 3 < d + 8; omega
        · show cats cst' + (13 * (2 + 1) + 42) ≤ 40 * d + 120
          rw [vrs_cats hvs]; omega
        · show cu σ2 - cu σ + 1 ≤ cu (zThrow σ2) - cu σ
          show cu σ2 - cu σ + 1 ≤ zn σ2 + (zt σ2 + 1) - cu σ
          have : cu σ2 = zn σ2 + zt σ2 := rfl
          omega
        · show su σ2 - su σ + 6 ≤ su (zThrow σ2) - su σ
          show su σ2 - su σ + 6 ≤ zs σ2 + 6 * (zt σ2 + 1) - su σ
          have : su σ2 = zs σ2 + 6 * zt σ2 := rfl
          omega
        · intro t hal hz hk
          refine ⟨E, ad', rfl, hE, rfl, hext, (hWd2.kept hk).thr, Nat.le_trans hS.1 hz, fun q h1 h2 => ?_⟩
          rw [hk q (Nat.lt_of_lt_of_le h1 hS.1)]
          exact hS.2.1 q h1 h2
        · show cu σ2 - cu σ + 1 ≤ zn σ2 + (zt σ2 + 1) - cu σ
          have : cu σ2 = zn σ2 + zt σ2 := rfl
          omega
        · show su σ2 - su σ + 6 ≤ zs σ2 + 6 * (zt σ2 + 1) - su σ
          have : su σ2 = zs σ2 + 6 * zt σ2 := rfl
          omega
    · intro x pc' rest q ce H' locs' ls' ad' hr hx hh hWd2 hext hS hce hcv hcl
      rw [Nat.zero_add, Nat.zero_add]
      refine vx_outP (E := zX x) hown hlocks ?_ hce hcv hcl (fun t ht _ => ⟨x, ad', hr, hx, rfl, hext, by rw [ht]; exact hWd2, hS.F ht⟩) hS.2.2 (Nat.le_refl _) (Nat.le_refl _)
      rw [htb]
      exact pass_ok hKU.2.2.2 hts2 (Or.inl (mLn_in hy)) hx (fun z hz => hz) (hnd_none hh)
  cases hh : mHn y with
  | nil =>
    have hw : mWd (mLn y) :: ALLW = Cond.code (mLn y).1 (mCd y) (mMx y) (mRt y) :: ALLW := by
      unfold mWd
      rw [show (mLn y).2.2.2.2.2.2.2 = [] from hh]
      rfl
    refine vx_ofW (cc := mCd y) (maxL := mMx y) (ret := mRt y) g2 hw (fun p e s m args below meth c s₁ B hml ht hP => body p e s m args below meth c s₁ B hml ?_ hP)
    rw [hh]
    cases hc : c.exceptionTable.toList with
    | nil => rfl
    | cons a b => exact (ht a (by rw [hc]; exact List.mem_cons_self)).elim
  | cons q qs =>
    have hw : mWd (mLn y) :: ALLW = Cond.codeWith (mLn y).1 (mCd y) (mMx y) (mRt y) (q :: qs) :: ALLW := by
      unfold mWd
      rw [show (mLn y).2.2.2.2.2.2.2 = q :: qs from hh]
      rfl
    refine vx_ofWH (cc := mCd y) (maxL := mMx y) (ret := mRt y) (hh := q :: qs) g2 hw (fun p e s m args below meth c s₁ B hml hP => body p e s m args below meth c s₁ B hml ?_ hP)
    rw [hh]
    exact vx_table (x := (mLn y).1) B (atoms_spec (ws := mWd (mLn y) :: ALLW) B.pre _ (by rw [hw]; exact List.mem_cons_self))
end S13
end
section
/-! SOUNDNESS: calls, and the induction -/
theorem gIn {ws : List Cond} (h : ∀ w ∈ ws, w ∈ ALLW) : GoodIn ALLW ws := fun w hw => ⟨h w hw, good_of_word (ALLW_good _ (h w hw))⟩
/-- how a call begins, in the interpreter -/
theorem zcall_inv {kd y : Nat} {st : List Value} {σ : St} {y' : Nat} {as st' : List Value} (h : zcall kd y st σ = some (.inr (.inr (y', as, st')))) (hk3 : kd ≤ 2) :
    y' = y ∧ mKd y = kd ∧ as = (st.take (mAr y + (if kd = 0 then 0 else 1))).reverse ∧ st' = st.drop (mAr y + (if kd = 0 then 0 else 1)) ∧ mAr y + (if kd = 0 then 0 else 1) ≤ st.length ∧ cats st' ≤ 8 ∧ (entA as).length ≤ mMx y ∧
    (kd = 1 → ∃ v as', as = v :: as' ∧ rcv σ y v = true) ∧ (kd = 2 → ∃ a as', as = .ref a :: as' ∧ (zh σ a).1 ≠ 0) := by
  have hkd : kd = 0 ∨ kd = 1 ∨ kd = 2 := by omega
  unfold zcall at h
  by_cases hq : mKd y = kd ∧ mAr y + (if kd = 0 then 0 else 1) ≤ st.length ∧ cats (st.drop (mAr y + (if kd = 0 then 0 else 1))) ≤ 8 ∧ (entA (st.take (mAr y + (if kd = 0 then 0 else 1))).reverse).length ≤ mMx y
  · rw [if_pos hq] at h
    obtain ⟨q1, q2, q3, q4⟩ := hq
    generalize hA : (st.take (mAr y + (if kd = 0 then 0 else 1))).reverse = A at h q4 ⊢
    rcases hkd with rfl | rfl | rfl
    · cases h
      exact ⟨rfl, q1, rfl, rfl, q2, q3, q4, (fun z => by cases z), (fun z => by cases z)⟩
    · cases A with
      | nil => cases h
      | cons v as2 =>
        by_cases hr : rcv σ y v = true
        · simp only [if_true, if_pos hr] at h
          cases h
          exact ⟨rfl, q1, rfl, rfl, q2, q3, q4, fun _ => ⟨v, as2, rfl, hr⟩, (fun z => by cases z)⟩
        · simp only [if_true, if_neg hr] at h
          cases h
    · cases A with
      | nil => cases h
      | cons v as2 =>
        have h21 : ¬ (2 = 1) := by omega
        simp only [h21, if_false] at h
        cases v with
        | ref a =>
          by_cases hr : (zh σ a).1 ≠ 0
          · simp only [if_pos hr] at h
            cases h
            exact ⟨rfl, q1, rfl, rfl, q2, q3, q4, (fun z => by cases z), fun _ => ⟨_, as2, rfl, hr⟩⟩
          · simp only [if_neg hr] at h
            cases h
        | _ => cases h
  · rw [if_neg hq] at h
    cases h
theorem stp_call {mi pc : Nat} {lo : Lo} {st : List Value} {σ : St} {y : Nat} {as st' : List Value} (h : stp mi pc lo st σ = some (.inr (.inr (y, as, st')))) :
    ∃ idx b, (decode (mCd mi) pc = .ok (.invokestatic idx, 3) ∧ lkq (mOw mi) idx = some (1, y, b) ∧ zcall 0 y st σ = some (.inr (.inr (y, as, st')))) ∨
      (decode (mCd mi) pc = .ok (.invokevirtual idx, 3) ∧ lkq (mOw mi) idx = some (1, y, b) ∧ zcall 1 y st σ = some (.inr (.inr (y, as, st')))) ∨
      (decode (mCd mi) pc = .ok (.invokespecial idx, 3) ∧ (lkq (mOw mi) idx = some (1, y, b) ∨ lkq (mOw mi) idx = some (2, y, b)) ∧ zcall 2 y st σ = some (.inr (.inr (y, as, st')))) := by
  have nld : ∀ k i pc', zld k i pc' lo st σ ≠ some (.inr (.inr (y, as, st'))) := by
    intro k i pc' h
    unfold zld nx at h
    (repeat' split at h) <;> cases h
  have nst : ∀ k i pc', zst k i pc' lo st σ ≠ some (.inr (.inr (y, as, st'))) := by
    intro k i pc' h
    unfold zst nx at h
    (repeat' split at h) <;> cases h
  have nst2 : ∀ k i pc', zst2 k i pc' lo st σ ≠ some (.inr (.inr (y, as, st'))) := by
    intro k i pc' h
    unfold zst2 nx at h
    (repeat' split at h) <;> cases h
  have ntg : ∀ off st2, tgo pc off lo st2 σ ≠ some (.inr (.inr (y, as, st'))) := by
    intro off st2 h
    unfold tgo nx at h
    (repeat' split at h) <;> cases h
  have ntb : ∀ off b st2, tbr pc off b lo st2 σ ≠ some (.inr (.inr (y, as, st'))) := by
    intro off b st2 h
    unfold tbr nx at h
    (repeat' split at h) <;> cases h
  have ntt : ∀ E, zthrow mi pc E st σ ≠ some (.inr (.inr (y, as, st'))) := by
    intro E h
    unfold zthrow at h
    (repeat' split at h) <;> cases h
  unfold stp at h
  split at h
  · rename_i i len hd
    split at h
    · exfalso
      simp only [zins] at h
      (repeat' split at h) <;> first | exact (ntg _ _ h).elim | cases h
    · split at h
      · rename_i hl
        subst hl
        cases i
        case invokestatic idx _ =>
          simp only [zins] at h
          split at h
          · rename_i y2 b heq
            obtain ⟨rfl, -⟩ := zcall_inv h (by omega)
            exact ⟨idx, b, Or.inl ⟨hd, heq, h⟩⟩
          all_goals (exfalso; (repeat' split at h) <;> cases h)
        case invokevirtual idx _ =>
          simp only [zins] at h
          split at h
          · rename_i y2 b heq
            obtain ⟨rfl, -⟩ := zcall_inv h (by omega)
            exact ⟨idx, b, Or.inr (Or.inl ⟨hd, heq, h⟩)⟩
          · cases h
        case invokespecial idx _ =>
          simp only [zins] at h
          split at h
          · rename_i y2 b heq
            obtain ⟨rfl, -⟩ := zcall_inv h (by omega)
            exact ⟨idx, b, Or.inr (Or.inr ⟨hd, Or.inl heq, h⟩)⟩
          · rename_i y2 b heq
            obtain ⟨rfl, -⟩ := zcall_inv h (by omega)
            exact ⟨idx, b, Or.inr (Or.inr ⟨hd, Or.inr heq, h⟩)⟩
          all_goals (exfalso; (repeat' split at h) <;> cases h)
        all_goals (exfalso; simp only [zins, reduceCtorEq] at h)
        all_goals (first | (cases h; done) | exact nld _ _ _ h | exact nst _ _ _ h | exact nst2 _ _ _ h | exact ntg _ _ h | ((repeat' split at h) <;> first | (cases h; done) | exact ntg _ _ h | exact ntb _ _ _ h | exact ntt _ h))
      · cases h
  · cases h
section S14
variable {l : Launch} {dC : Nat → ClassId} {dI : Nat → Nat → Nat} {cid : Nat → ClassId} {base L : Nat} {xs : Nat → Int32}
variable {p : Program} {e : Env} {R : Room} {s : State} {m : MethodId} {args : Array Value} {below : List Frame} {meth : Method} {c : Code} {H : Heap} {locs : List Loc} {cells slots : Nat} {Q : State → Prop}
variable {mi pc : Nat} {ad : Nat → Nat} {lo : Lo} {ls : Array Slot} {st cst : List Value} {σ : St}
theorem pcs_blind (cargs : List Value) : FrameBlind (va_Pc cargs (PcS dC dI cid base L xs ad σ)) := fun a U g mk h => ⟨h.1, KU.warm (s := U) (U := U.calling g mk a) (State.WarmedH.refl U) h.2.1, HF.moved (u := U) (U := U.calling g mk a) (Vm.Alike.refl U.vm) (Nat.le_refl _) (fun _ _ _ => rfl) h.2.2.1, h.2.2.2⟩
theorem pcs_at (cargs : List Value) (X : Sx p l s m args meth c R H locs mi dC dI cid base L xs ad lo ls σ) : ∀ U : State, U.heap = H → s.WarmedH U.vm → va_Pc cargs (PcS dC dI cid base L xs ad σ) cargs.toArray U := fun U hU hW => ⟨rfl, KU.warm hW X.2.1, by rw [hU]; exact HF.moved hW.alike X.2.2.2.2.1.1 X.2.2.2.2.1.2.1 X.2.2.1, by rw [hU]; exact X.2.2.2.1⟩
set_option maxHeartbeats 1000000 in
/-- behind a call: the rest of the run -/
theorem call_go {n d y : Nat} (IH : SND l dC dI cid base L xs n) {as st' cargs crest : List Value} {r r1 : Rs} {σ1 σ' : St} (X : Sx p l s m args meth c R H locs mi dC dI cid base L xs ad lo ls σ) (hmi : mLn mi ∈ mTa ∨ mHn mi = [])
    (hrest : vrs (zn σ) ad st' crest) (hfr : d + 1 + 8 ≤ R.frames) (hlo : 40 * (d + 1) + 120 ≤ R.locals) (hc : cells + (cu σ' - cu σ) ≤ R.cells) (hsl : slots + (su σ' - su σ) ≤ R.slots)
    (g1 : zn σ ≤ zn σ1 ∧ cu σ ≤ cu σ1 ∧ su σ ≤ su σ1) (hx4 : ∀ x, r1 = .inr x → x < 4)
    (h : (match r1 with
      | .inl v => run n (d + 1) mi (pc + 3) lo (v.toList ++ st') σ1
      | .inr E => match hnd (mOw mi) (mHn mi) pc E with
        | some h => run n (d + 1) mi h lo [.retAddr 0] σ1
        | none => some (.inr E, σ1)) = some (r, σ'))
    (hE : EndK p l e R s m args below meth c cells slots Q mi dC dI cid base L xs ad σ r σ')
    (hrun : vx_Run p l e R s m args below meth c H locs cells slots (cu σ1 - cu σ) (su σ1 - su σ) (F0 m pc ls cst) crest (QcS dC dI cid base L xs ad σ r1 σ1 cargs.toArray) (XcS dC dI cid base L xs ad σ r1 σ1) (AA base)) :
    W p l e R s m args below meth c H locs cells slots Q (F0 m pc ls cst) := by
  have h15 := X.2.2.2.1.2.2.1
  intro T hT Xs
  -- what goes on, from a state behind the call
  have go : ∀ (pc' : Nat) (st2 cst2 : List Value) (H1 : Heap) (locs1 : List Loc) (ad' : Nat → Nat), run n (d + 1) mi pc' lo st2 σ1 = some (r, σ') → Wd dC dI cid base L xs ad' σ1 H1 → (∀ k, k < zn σ → ad' k = ad k) → va_S (AA base) s.heap H1 locs1 → vrs (zn σ1) ad' st2 cst2 → W p l e R s m args below meth c H1 locs1 (cells + (cu σ1 - cu σ)) (slots + (su σ1 - su σ)) Q (F0 m pc' ls cst2) := by
    intro pc' st2 cst2 H1 locs1 ad' hr hW hext hS hvs
    have g2 := run_grows _ _ _ _ _ _ _ _ _ hr
    refine IH (d + 1) mi pc' lo st2 σ1 r σ' hr hmi p e R s m args below meth c H1 locs1 _ _ Q ad' ls cst2 ⟨X.1, KU.adr (fun k hk => hext k (by omega)) X.2.1, HF.adr (fun k hk => hext k (by omega)) X.2.2.1, hW, hS, X.2.2.2.2.2.1.mono hext g1.1, X.2.2.2.2.2.2⟩ hvs hfr hlo (by omega) (by omega) ⟨?_, ?_⟩
    · intro pc2 lo2 st3 cst3 H' locs' ls' ad2 σ2 e1 e2 e3 e4 e5 e6 e7 e8 e9
      have := hE.1 pc2 lo2 st3 cst3 H' locs' ls' ad2 σ2 e1 e2 (fun k hk => (e3 k (by omega)).trans (hext k hk)) e4 e5 e6 (by omega) (by omega) (by omega)
      rw [show cells + (cu σ1 - cu σ) + (cu σ2 - cu σ1) = cells + (cu σ2 - cu σ) by omega, show slots + (su σ1 - su σ) + (su σ2 - su σ1) = slots + (su σ2 - su σ) by omega]
      exact this
    · intro x pc2 rest q ce H' locs' ls' ad2 e1 e2 e3 e4 e5 e6 e7 e8 e9
      have := hE.2 x pc2 rest q ce H' locs' ls' ad2 e1 e2 e3 e4 (fun k hk => (e5 k (by omega)).trans (hext k hk)) e6 e7 e8 e9
      rw [show cells + (cu σ1 - cu σ) + (cu σ' - cu σ1) = cells + (cu σ' - cu σ) by omega, show slots + (su σ1 - su σ) + (su σ' - su σ1) = slots + (su σ' - su σ) by omega]
      exact this
  rcases hrun T hT Xs with ⟨v, st₀, t, T', Lc, h0, X', hL, e1, e2, hq, hgo⟩ | ⟨q, st₀, t, T', Lc, E, ce, h0, X', hL, e1, e2, hx, hce, hcv, hcl, hst⟩
  · obtain ⟨v1, cv, ad', hr1, hv1, hvr, hext, hWd, hF⟩ := hq
    cases hv1
    subst hr1
    obtain ⟨k1, k2, k3⟩ := vx_keep (A0 := AA base) h0 e1 X.2.2.2.2.1 (fun _ _ h => h) (fun _ h => h) hL hF
    have hvs : vrs (zn σ1) ad' (v1.toList ++ st') (v.toList ++ crest) := by
      have h2 := vrs_mono hext g1.1 hrest
      match v1, v, hvr with
      | none, none, _ => exact h2
      | some a, some b, hvr => exact ⟨hvr, h2⟩
    obtain ⟨t2, a1, b1⟩ := go (pc + 3) _ _ T'.heap (locs ++ Lc) ad' h (by rw [e1]; exact hWd) hext k3 hvs T' rfl X'
    exact ⟨t2, hgo t2 a1, b1⟩
  · obtain ⟨x, ad', hr1, hx, rfl, hext, hWd, hF⟩ := hx
    subst hr1
    obtain ⟨k1, k2, k3⟩ := vx_keep (A0 := AA base) h0 e1 X.2.2.2.2.1 (fun _ _ h => h) (fun _ h => h) hL hF
    have hWd' : Wd dC dI cid base L xs ad' σ1 T'.heap := by rw [e1]; exact hWd
    have hce' : T'.heap[q]? = some ce := by rw [e1]; exact hce
    dsimp only at h
    match hh : hnd (mOw mi) (mHn mi) pc x with
    | none =>
      rw [hh] at h
      cases h
      obtain ⟨t2, a1, b1⟩ := hE.2 x pc crest q ce T'.heap (locs ++ Lc) ls ad' rfl hx hh hWd' hext k3 hce' hcv hcl T' rfl X'
      exact ⟨t2, hst.trans a1, b1⟩
    | some hp =>
      rw [hh] at h
      obtain ⟨pre, z, suf, f1, f2, f3, rfl, f5⟩ := hnd_some hh
      have hk := go z.2.2.1 [.retAddr 0] [.ref q] T'.heap (locs ++ Lc) ad' h hWd' hext k3 ⟨Or.inr ⟨q, rfl⟩, trivial⟩
      have hz0 : z.2.2.2 ≠ 0 := by
        rcases hmi with hmi | hmi
        · exact (mT_hnd _ hmi z (by show z ∈ mHn mi; rw [f1]; simp)).1
        · rw [hmi] at f1
          simp at f1
      have hts : ∀ w ∈ ALLW, w.before args s = true := X.1.2.2.2.2.2.2.2.1
      have hcast : (Cond.castable (zX x) (zX x)).before args s = true := va_Nw.use rfl (X.2.1.2.1 _ (cast_in x hx))
      have hcw : vx_W p l e R s m args below meth c T'.heap (locs ++ Lc) (cells + (cu σ1 - cu σ)) (slots + (su σ1 - su σ)) Q (F0 m pc ls crest) q :=
        vx_catch X.1.2.2.2.2.1 (Jvm.tableOf pre) ⟨z.1, z.2.1, z.2.2.1, z.2.2.2⟩ (Jvm.tableOf suf) (by rw [X.1.2.2.2.2.2.2.1, f1]; simp [Jvm.tableOf]) (pass_ok X.2.1.2.2.2 hts hmi hx (fun z hz => by rw [f1]; exact List.mem_append_left _ hz) f5) (by rw [covs_covers]; exact f2) hz0 (hts _ ((lkq_ok f3).1 _ (by simp [lWs]))) hcast hce' hcv hcl hk
      obtain ⟨t2, a1, b1⟩ := hcw T' rfl X'
      exact ⟨t2, hst.trans a1, b1⟩
end S14
end
section
/-! SOUNDNESS: each call's run; the induction on the fuel -/
section S15
variable {l : Launch} {dC : Nat → ClassId} {dI : Nat → Nat → Nat} {cid : Nat → ClassId} {base L : Nat} {xs : Nat → Int32}
variable {p : Program} {e : Env} {R : Room} {s : State} {m : MethodId} {args : Array Value} {below : List Frame} {meth : Method} {c : Code} {H : Heap} {locs : List Loc} {cells slots : Nat} {Q : State → Prop}
variable {mi pc : Nat} {ad : Nat → Nat} {lo : Lo} {ls : Array Slot} {st cst : List Value} {σ : St}
theorem cst_split (k : Nat) (cst : List Value) : cst = ((cst.take k).reverse).reverse ++ cst.drop k := by
  rw [List.reverse_reverse, List.take_append_drop]
theorem cst_splitR {k : Nat} {cst cs : List Value} {v : Value} (h : (cst.take k).reverse = v :: cs) : cst = cs.reverse ++ v :: cst.drop k := by
  have h1 := congrArg List.reverse h
  rw [List.reverse_reverse, List.reverse_cons] at h1
  calc cst = cst.take k ++ cst.drop k := (List.take_append_drop k cst).symm
    _ = _ := by rw [h1, List.append_assoc]; rfl
theorem sx_fix (X : Sx p l s m args meth c R H locs mi dC dI cid base L xs ad lo ls σ) : CallFix p m c (mCd mi) (mMx mi) s args ALLW (zC (mOw mi)) :=
  ⟨X.1.1, X.1.2.1, X.1.2.2.2.1, X.1.2.2.2.2.1, X.1.2.2.2.2.2.2.2.1⟩
theorem ws_in {y : Nat} (h : ∀ w ∈ mWs (mLn y), w ∈ ALLW) : ∀ w ∈ mWd (mLn y) :: ALLW, w ∈ ALLW := by
  intro w hw
  rcases List.mem_cons.mp hw with rfl | hw
  · exact h _ (by unfold mWs; exact List.mem_cons_self)
  · exact hw
theorem call_static {n d y idx b : Nat} (IH : SND l dC dI cid base L xs n) {as st' : List Value} {r1 : Rs} {σ1 : St}
    (X : Sx p l s m args meth c R H locs mi dC dI cid base L xs ad lo ls σ) (hs : vrs (zn σ) ad st cst)
    (hd : decode (mCd mi) pc = .ok (.invokestatic idx, 3)) (hl : lkq (mOw mi) idx = some (1, y, b)) (hz : zcall 0 y st σ = some (.inr (.inr (y, as, st')))) (hr : run n d y 0 (ent y as) [] σ = some (r1, σ1))
    (hfr : d + 1 + 8 ≤ R.frames) (hlo : 40 * (d + 1) + 120 ≤ R.locals) (hc : cells + (cu σ1 - cu σ) ≤ R.cells) (hsl : slots + (su σ1 - su σ) ≤ R.slots) :
    ∃ crest cargs, vrs (zn σ) ad st' crest ∧ vx_Run p l e R s m args below meth c H locs cells slots (cu σ1 - cu σ) (su σ1 - su σ) (F0 m pc ls cst) crest (QcS dC dI cid base L xs ad σ r1 σ1 cargs) (XcS dC dI cid base L xs ad σ r1 σ1) (AA base) := by
  obtain ⟨-, hk, rfl, rfl, hlen, hcat, hent, -, -⟩ := zcall_inv hz (by omega)
  have hy : y < 334 := by simpa [lSg] using (lkq_ok hl).2
  obtain ⟨hWy, hsg⟩ := mLn_ok hy
  have hv := vrs_rev (vrs_take (mAr y + (if 0 = 0 then 0 else 1)) hs)
  have hM := met_of_snd IH X.1.2.2.2.2.2.2.2.2.2 hy hr hent hv
  simp only [mSg, Bool.and_eq_true, decide_eq_true_eq] at hsg
  obtain ⟨⟨⟨⟨⟨⟨g1, g2⟩, g3⟩, g4⟩, g5⟩, g6⟩, g7⟩ := hsg
  have hts : ∀ w ∈ ALLW, w.before args s = true := X.1.2.2.2.2.2.2.2.1
  have hkk : (mLn y).2.2.2.2.2.1 = 0 := hk
  have hini : Cond.initialized (mLn y).1.cls ∈ ALLW := hWy _ (by unfold mWs; simp)
  have hstat : Cond.static (mLn y).1 ∈ ALLW := hWy _ (by unfold mWs; rw [hkk]; simp)
  have hlink : Cond.methodLink (zC (mOw mi)) idx (mLn y).1 ∈ ALLW := (lkq_ok hl).1 _ (by simp [lWs])
  have hG : GoodIn ALLW (mWd (mLn y) :: ALLW) := gIn (ws_in hWy)
  have hm7 : mMx y ≤ 12 := g7
  have hR : (rmd d (cu σ1 - cu σ) (su σ1 - su σ)).frames + 1 ≤ R.frames ∧ 8 + (mMx y + 11) + (rmd d (cu σ1 - cu σ) (su σ1 - su σ)).locals ≤ R.locals := by
    refine ⟨?_, ?_⟩
    · show d + 8 + 1 ≤ R.frames; omega
    · show 8 + (mMx y + 11) + (40 * d + 120) ≤ R.locals; omega
  have hcl : cst.length = st.length := vrs_len hs
  have hn : ((cst.take (mAr y + (if 0 = 0 then 0 else 1))).reverse).length = mAr y := by
    rw [List.length_reverse, List.length_take]
    simp only [if_true] at hlen ⊢
    omega
  have hrest := vrs_drop (mAr y + (if 0 = 0 then 0 else 1)) hs
  have hWr : 2 * (F0 m pc ls cst).monitorRoom + ((cst.drop (mAr y + (if 0 = 0 then 0 else 1))).map fun v => v.category).sum ≤ 8 := by
    have : (F0 m pc ls cst).monitorRoom = 0 := rfl
    rw [this]
    have h2 := vrs_cats hrest
    unfold cats at h2 hcat
    omega
  refine ⟨_, ((cst.take (mAr y + (if 0 = 0 then 0 else 1))).reverse).toArray, hrest, ?_⟩
  cases hh : mHn y with
  | nil =>
    have hw : mWd (mLn y) :: ALLW = Cond.code (mLn y).1 (mCd y) (mMx y) (mRt y) :: ALLW := by
      unfold mWd
      rw [show (mLn y).2.2.2.2.2.2.2 = [] from hh]
      rfl
    exact vx_runS (sx_fix X) hM ⟨callB_of (mAr y) hts hG hw rfl rfl (hts _ hini) (hts _ hlink) ⟨g3, g4, g1⟩ hR, hts _ hstat⟩ ⟨pcs_blind _, pcs_at _ X⟩ rfl hn X.2.2.2.2.2.1.size (cst_split _ _) hWr hd ⟨hc, hsl⟩
  | cons q qs =>
    have hw : mWd (mLn y) :: ALLW = Cond.codeWith (mLn y).1 (mCd y) (mMx y) (mRt y) (q :: qs) :: ALLW := by
      unfold mWd
      rw [show (mLn y).2.2.2.2.2.2.2 = q :: qs from hh]
      rfl
    have hT : GoodIn ALLW (va_wsS (zC (mOw mi)) idx (mLn y).1 (mWd (mLn y) :: ALLW)) := gIn (by
      intro w hw2
      unfold va_wsS at hw2
      rcases List.mem_append.mp hw2 with hw2 | hw2
      · simp only [List.mem_cons, List.not_mem_nil, or_false] at hw2
        rcases hw2 with rfl | rfl | rfl
        · exact hlink
        · exact hstat
        · exact hini
      · exact ws_in hWy w hw2)
    exact vx_runSX (sx_fix X) hM (vx_cwSW (mAr y) hts hT hw rfl rfl ⟨g3, g4, g1⟩ hR) ⟨pcs_blind _, pcs_at _ X⟩ rfl hn X.2.2.2.2.2.1.size (cst_split _ _) hWr hd ⟨hc, hsl⟩
theorem call_virt {n d y idx b : Nat} (IH : SND l dC dI cid base L xs n) {as st' : List Value} {r1 : Rs} {σ1 : St}
    (X : Sx p l s m args meth c R H locs mi dC dI cid base L xs ad lo ls σ) (hs : vrs (zn σ) ad st cst)
    (hd : decode (mCd mi) pc = .ok (.invokevirtual idx, 3)) (hl : lkq (mOw mi) idx = some (1, y, b)) (hz : zcall 1 y st σ = some (.inr (.inr (y, as, st')))) (hr : run n d y 0 (ent y as) [] σ = some (r1, σ1))
    (hfr : d + 1 + 8 ≤ R.frames) (hlo : 40 * (d + 1) + 120 ≤ R.locals) (hc : cells + (cu σ1 - cu σ) ≤ R.cells) (hsl : slots + (su σ1 - su σ) ≤ R.slots) :
    ∃ crest cargs, vrs (zn σ) ad st' crest ∧ vx_Run p l e R s m args below meth c H locs cells slots (cu σ1 - cu σ) (su σ1 - su σ) (F0 m pc ls cst) crest (QcS dC dI cid base L xs ad σ r1 σ1 cargs) (XcS dC dI cid base L xs ad σ r1 σ1) (AA base) := by
  obtain ⟨-, hk, has, hst', hlen, hcat, hent, hrc, -⟩ := zcall_inv hz (by omega)
  obtain ⟨v, as', has', hrcv⟩ := hrc rfl
  have hy : y < 334 := by simpa [lSg] using (lkq_ok hl).2
  obtain ⟨hWy, hsg⟩ := mLn_ok hy
  have hv := vrs_rev (vrs_take (mAr y + (if 1 = 0 then 0 else 1)) hs)
  rw [← has] at hv
  have hM := met_of_snd IH X.1.2.2.2.2.2.2.2.2.2 hy hr hent hv
  simp only [mSg, Bool.and_eq_true, decide_eq_true_eq] at hsg
  obtain ⟨⟨⟨⟨⟨⟨g1, g2⟩, g3⟩, g4⟩, g5⟩, g6⟩, g7⟩ := hsg
  have hts : ∀ w ∈ ALLW, w.before args s = true := X.1.2.2.2.2.2.2.2.1
  have hkk : (mLn y).2.2.2.2.2.1 = 1 := hk
  have hini : Cond.initialized (mLn y).1.cls ∈ ALLW := hWy _ (by unfold mWs; simp)
  have hinst : Cond.instanceMethod (mLn y).1 ∈ ALLW := hWy _ (by unfold mWs; rw [hkk]; simp)
  have hsel : Cond.selects (mLn y).1.cls (mLn y).1 (mLn y).1 ∈ ALLW := hWy _ (by unfold mWs; rw [hkk]; simp)
  have hlink : Cond.methodLink (zC (mOw mi)) idx (mLn y).1 ∈ ALLW := (lkq_ok hl).1 _ (by simp [lWs])
  have hG : GoodIn ALLW (mWd (mLn y) :: ALLW) := gIn (ws_in hWy)
  have hm7 : mMx y ≤ 12 := g7
  have hR : (rmd d (cu σ1 - cu σ) (su σ1 - su σ)).frames + 1 ≤ R.frames ∧ 8 + (mMx y + 11) + (rmd d (cu σ1 - cu σ) (su σ1 - su σ)).locals ≤ R.locals := by
    refine ⟨?_, ?_⟩
    · show d + 8 + 1 ≤ R.frames; omega
    · show 8 + (mMx y + 11) + (40 * d + 120) ≤ R.locals; omega
  have hcl : cst.length = st.length := vrs_len hs
  have hrest := vrs_drop (mAr y + (if 1 = 0 then 0 else 1)) hs
  rw [← hst'] at hrest
  have hWr : 2 * (F0 m pc ls cst).monitorRoom + ((cst.drop (mAr y + (if 1 = 0 then 0 else 1))).map fun v => v.category).sum ≤ 8 := by
    have : (F0 m pc ls cst).monitorRoom = 0 := rfl
    rw [this]
    have h2 := vrs_cats hrest
    unfold cats at h2 hcat
    omega
  have hh : mHn y = [] := mT_virt _ (mLn_in hy) hkk
  have hw : mWd (mLn y) :: ALLW = Cond.code (mLn y).1 (mCd y) (mMx y) (mRt y) :: ALLW := by
    unfold mWd
    rw [show (mLn y).2.2.2.2.2.2.2 = [] from hh]
    rfl
  match v, hrcv with
  | .ref a, hrcv =>
    rw [has'] at hv
    obtain ⟨hlt, cs, hcs, hvs⟩ := vrs_ref hv
    have hsp := cst_splitR hcs
    have hn : cs.length = mAr y := by
      have := congrArg List.length hcs
      rw [List.length_reverse, List.length_take, List.length_cons] at this
      simp only [Nat.one_ne_zero, if_false] at hlen this
      omega
    have hcell : ∃ cellB : Cell, H[ad a]? = some cellB ∧ cellB.vm.isStatics = false ∧ s.vm.findClass (mLn y).1.cls = some cellB.cls := by
      rw [g5]
      show ∃ cellB : Cell, H[ad a]? = some cellB ∧ cellB.vm.isStatics = false ∧ s.vm.findClass (zC (mOw y)) = some cellB.cls
      unfold rcv at hrcv
      by_cases h10 : mOw y < 10
      · simp only [h10, if_true, decide_eq_true_eq] at hrcv
        have hkd : (zh σ a).1 = mOw y + 1 := by rw [hrcv]
        obtain ⟨h15, -⟩ := X.2.2.2.1.2.2.own (a := a) (by omega) (by omega)
        exact va_recv X.2.1.1 X.2.2.2.1.1 (vwCl_at (mOw y) h10) ((wl_at h15 hlt).trans (by rw [cel_o hkd h10]))
      · simp only [h10, if_false, decide_eq_true_eq] at hrcv
        obtain ⟨h11, h20⟩ := hrcv
        obtain ⟨i, hi, rfl⟩ := X.2.2.2.1.2.2.k20 h20
        rw [h11]
        exact vk_recv (adK := fun i => ad (1 + i)) (i := i) X.2.2.1.2.2.2.1 hi X.2.2.2.2.1
    refine ⟨cst.drop (mAr y + (if 1 = 0 then 0 else 1)), (Value.ref (ad a) :: cs).toArray, hrest, ?_⟩
    rw [hcs] at hM
    exact vx_runV (sx_fix X) hM ⟨callB_of (mAr y) hts hG hw rfl rfl (hts _ hini) (hts _ hlink) ⟨g3, g4, g1⟩ hR, hts _ hinst, hts _ hsel⟩ ⟨pcs_blind _, hcell, pcs_at _ X⟩ rfl hn X.2.2.2.2.2.1.size hsp hWr hd ⟨hc, hsl⟩
theorem call_spec {n d y idx b : Nat} (IH : SND l dC dI cid base L xs n) {as st' : List Value} {r1 : Rs} {σ1 : St}
    (X : Sx p l s m args meth c R H locs mi dC dI cid base L xs ad lo ls σ) (hs : vrs (zn σ) ad st cst)
    (hd : decode (mCd mi) pc = .ok (.invokespecial idx, 3)) (hl : lkq (mOw mi) idx = some (1, y, b) ∨ lkq (mOw mi) idx = some (2, y, b)) (hz : zcall 2 y st σ = some (.inr (.inr (y, as, st')))) (hr : run n d y 0 (ent y as) [] σ = some (r1, σ1))
    (hfr : d + 1 + 8 ≤ R.frames) (hlo : 40 * (d + 1) + 120 ≤ R.locals) (hc : cells + (cu σ1 - cu σ) ≤ R.cells) (hsl : slots + (su σ1 - su σ) ≤ R.slots) :
    ∃ crest cargs, vrs (zn σ) ad st' crest ∧ vx_Run p l e R s m args below meth c H locs cells slots (cu σ1 - cu σ) (su σ1 - su σ) (F0 m pc ls cst) crest (QcS dC dI cid base L xs ad σ r1 σ1 cargs) (XcS dC dI cid base L xs ad σ r1 σ1) (AA base) := by
  obtain ⟨-, hk, has, hst', hlen, hcat, hent, -, hrc⟩ := zcall_inv hz (by omega)
  obtain ⟨a, as', has', hrcv⟩ := hrc rfl
  have hy : y < 334 := by
    rcases hl with hl | hl
    · simpa [lSg] using (lkq_ok hl).2
    · simpa [lSg] using (lkq_ok hl).2
  obtain ⟨hWy, hsg⟩ := mLn_ok hy
  have hv := vrs_rev (vrs_take (mAr y + (if 2 = 0 then 0 else 1)) hs)
  rw [← has] at hv
  have hM := met_of_snd IH X.1.2.2.2.2.2.2.2.2.2 hy hr hent hv
  simp only [mSg, Bool.and_eq_true, decide_eq_true_eq] at hsg
  obtain ⟨⟨⟨⟨⟨⟨g1, g2⟩, g3⟩, g4⟩, g5⟩, g6⟩, g7⟩ := hsg
  have hts : ∀ w ∈ ALLW, w.before args s = true := X.1.2.2.2.2.2.2.2.1
  have hkk : (mLn y).2.2.2.2.2.1 = 2 := hk
  have hini : Cond.initialized (mLn y).1.cls ∈ ALLW := hWy _ (by unfold mWs; simp)
  have hinst : Cond.instanceMethod (mLn y).1 ∈ ALLW := hWy _ (by unfold mWs; rw [hkk]; simp)
  have hG : GoodIn ALLW (mWd (mLn y) :: ALLW) := gIn (ws_in hWy)
  have hm7 : mMx y ≤ 12 := g7
  have hR : (rmd d (cu σ1 - cu σ) (su σ1 - su σ)).frames + 1 ≤ R.frames ∧ 8 + (mMx y + 11) + (rmd d (cu σ1 - cu σ) (su σ1 - su σ)).locals ≤ R.locals := by
    refine ⟨?_, ?_⟩
    · show d + 8 + 1 ≤ R.frames; omega
    · show 8 + (mMx y + 11) + (40 * d + 120) ≤ R.locals; omega
  have hcl : cst.length = st.length := vrs_len hs
  have hrest := vrs_drop (mAr y + (if 2 = 0 then 0 else 1)) hs
  rw [← hst'] at hrest
  have hWr : 2 * (F0 m pc ls cst).monitorRoom + ((cst.drop (mAr y + (if 2 = 0 then 0 else 1))).map fun v => v.category).sum ≤ 8 := by
    have : (F0 m pc ls cst).monitorRoom = 0 := rfl
    rw [this]
    have h2 := vrs_cats hrest
    unfold cats at h2 hcat
    omega
  obtain ⟨hret, hhn⟩ := mT_init _ (mLn_in hy) hkk
  have hh : mHn y = [] := hhn
  have hrt : mRt y = none := hret
  have hw : mWd (mLn y) :: ALLW = Cond.code (mLn y).1 (mCd y) (mMx y) none :: ALLW := by
    unfold mWd
    rw [hhn, hret]
    rfl
  rw [has'] at hv
  obtain ⟨hlt, cs, hcs, hvs⟩ := vrs_ref hv
  have hsp := cst_splitR hcs
  have hn : cs.length = mAr y := by
    have := congrArg List.length hcs
    rw [List.length_reverse, List.length_take, List.length_cons] at this
    have h20 : ¬ (2 = 0) := by omega
    simp only [h20, if_false] at hlen this
    omega
  refine ⟨cst.drop (mAr y + (if 2 = 0 then 0 else 1)), (Value.ref (ad a) :: cs).toArray, hrest, ?_⟩
  rw [hcs] at hM
  rcases hl with hl | hl
  · have hlink : Cond.methodLink (zC (mOw mi)) idx (mLn y).1 ∈ ALLW := (lkq_ok hl).1 _ (by simp [lWs])
    exact vx_runI (sx_fix X) hM (cwI (mAr y) hts hG hw rfl rfl (hts _ hini) (hts _ hlink) (hts _ hinst) (g6 hkk) ⟨g3, g4, g1⟩ hR) ⟨pcs_blind _, pcs_at _ X⟩ rfl hn X.2.2.2.2.2.1.size hsp hWr hd ⟨hc, hsl⟩
  · have hmem := lkq_mem hl
    have hown : mOw mi < 14 := by
      refine Nat.not_le.mp fun hge => ?_
      obtain ⟨z, hz⟩ := Nat.exists_eq_add_of_le hge
      rw [show mOw mi = z + 14 by omega] at hmem
      cases hmem
    have hng := X.2.1.2.1 _ (lk_nest (mOw mi) hown _ hmem rfl)
    exact vx_runIN (sx_fix X) hM ⟨va_cnB (mAr y) hts hG hw rfl rfl hng (hts _ hini) ⟨g3, g4, g1⟩ hR, g6 hkk, hts _ hinst⟩ ⟨pcs_blind _, pcs_at _ X⟩ rfl hn X.2.2.2.2.2.1.size hsp hWr hd ⟨hc, hsl⟩
set_option maxHeartbeats 1000000 in
theorem snd_all (l : Launch) (dC : Nat → ClassId) (dI : Nat → Nat → Nat) (cid : Nat → ClassId) (base L : Nat) (xs : Nat → Int32) : ∀ n, SND l dC dI cid base L xs n := by
  intro n
  induction n with
  | zero => intro d mi pc lo st σ r σ' h; simp [run] at h
  | succ n IH =>
    intro d mi pc lo st σ r σ' h hmi p e R s m args below meth c H locs cells slots Q ad ls cst X hs hfr hlo hc hsl hE
    have h15 := X.2.2.2.1.2.2.1
    rw [run] at h
    match hstp : stp mi pc lo st σ with
    | none => rw [hstp] at h; cases h
    | some (.inl (pc', lo', st', σ1)) =>
      rw [hstp] at h
      have g1 := stp_grows hstp
      have g2 := run_grows _ _ _ _ _ _ _ _ _ h
      refine step_sound X hstp hs ?_ (by omega) (by omega)
      intro H1 locs1 ls1 ad1 cst1 hW hext hS hL hvs
      refine IH d mi pc' lo' st' σ1 r σ' h hmi p e R s m args below meth c H1 locs1 _ _ Q ad1 ls1 cst1 ⟨X.1, KU.adr (fun k hk => hext k (by omega)) X.2.1, HF.adr (fun k hk => hext k (by omega)) X.2.2.1, hW, hS, hL, X.2.2.2.2.2.2⟩ hvs hfr hlo (by omega) (by omega) ⟨?_, ?_⟩
      · intro pc2 lo2 st3 cst3 H' locs' ls' ad2 σ2 e1 e2 e3 e4 e5 e6 e7 e8 e9
        have := hE.1 pc2 lo2 st3 cst3 H' locs' ls' ad2 σ2 e1 e2 (fun k hk => (e3 k (by omega)).trans (hext k hk)) e4 e5 e6 (by omega) (by omega) (by omega)
        rw [show cells + (cu σ1 - cu σ) + (cu σ2 - cu σ1) = cells + (cu σ2 - cu σ) by omega, show slots + (su σ1 - su σ) + (su σ2 - su σ1) = slots + (su σ2 - su σ) by omega]
        exact this
      · intro x pc2 rest q ce H' locs' ls' ad2 e1 e2 e3 e4 e5 e6 e7 e8 e9
        have := hE.2 x pc2 rest q ce H' locs' ls' ad2 e1 e2 e3 e4 (fun k hk => (e5 k (by omega)).trans (hext k hk)) e6 e7 e8 e9
        rw [show cells + (cu σ1 - cu σ) + (cu σ' - cu σ1) = cells + (cu σ' - cu σ) by omega, show slots + (su σ1 - su σ) + (su σ' - su σ1) = slots + (su σ' - su σ) by omega]
        exact this
    | some (.inr (.inl q)) =>
      rw [hstp] at h
      cases h
      have := hE.1 pc lo st cst H locs ls ad σ hstp X.2.2.2.1 (fun _ _ => rfl) X.2.2.2.2.1 X.2.2.2.2.2.1 hs (Nat.le_refl _) (Nat.le_refl _) (Nat.le_refl _)
      rw [Nat.sub_self, Nat.sub_self, Nat.add_zero, Nat.add_zero] at this
      exact this
    | some (.inr (.inr (y, as, st'))) =>
      rw [hstp] at h
      match d, h, hfr, hlo with
      | 0, h, _, _ => cases h
      | d + 1, h, hfr, hlo =>
        dsimp only at h
        obtain ⟨idx, b, hcase⟩ := stp_call hstp
        match hcr : run n d y 0 (ent y as) [] σ with
        | none => rw [hcr] at h; cases h
        | some (.inl v, σ1) =>
          rw [hcr] at h
          dsimp only at h
          have g1 := run_grows _ _ _ _ _ _ _ _ _ hcr
          have g2 := run_grows _ _ _ _ _ _ _ _ _ h
          have key : ∃ crest cargs, vrs (zn σ) ad st' crest ∧ vx_Run p l e R s m args below meth c H locs cells slots (cu σ1 - cu σ) (su σ1 - su σ) (F0 m pc ls cst) crest (QcS dC dI cid base L xs ad σ (.inl v) σ1 cargs) (XcS dC dI cid base L xs ad σ (.inl v) σ1) (AA base) := by
            rcases hcase with ⟨hd, hl, hz⟩ | ⟨hd, hl, hz⟩ | ⟨hd, hl, hz⟩
            · exact call_static IH X hs hd hl hz hcr hfr hlo (by omega) (by omega)
            · exact call_virt IH X hs hd hl hz hcr hfr hlo (by omega) (by omega)
            · exact call_spec IH X hs hd hl hz hcr hfr hlo (by omega) (by omega)
          obtain ⟨crest, cargs, hrest, hrun⟩ := key
          obtain ⟨cl, rfl⟩ : ∃ cl : List Value, cargs = cl.toArray := ⟨cargs.toList, by simp⟩
          exact call_go (y := y) (as := as) (r1 := .inl v) IH X hmi hrest hfr hlo hc hsl g1 (fun x hx => by cases hx) h hE hrun
        | some (.inr E, σ1) =>
          rw [hcr] at h
          dsimp only at h
          have g1 := run_grows _ _ _ _ _ _ _ _ _ hcr
          have g2 : cu σ1 ≤ cu σ' ∧ su σ1 ≤ su σ' := by
            match hq : hnd (mOw mi) (mHn mi) pc E with
            | none => rw [hq] at h; cases h; exact ⟨Nat.le_refl _, Nat.le_refl _⟩
            | some q =>
              rw [hq] at h
              exact (run_grows _ _ _ _ _ _ _ _ _ h).2
          have hx4 : ∀ x, (Sum.inr E : Rs) = .inr x → x < 4 := fun x hx => by
            cases hx
            exact run_x4 _ _ _ _ _ _ _ _ _ hcr
          have key : ∃ crest cargs, vrs (zn σ) ad st' crest ∧ vx_Run p l e R s m args below meth c H locs cells slots (cu σ1 - cu σ) (su σ1 - su σ) (F0 m pc ls cst) crest (QcS dC dI cid base L xs ad σ (.inr E) σ1 cargs) (XcS dC dI cid base L xs ad σ (.inr E) σ1) (AA base) := by
            rcases hcase with ⟨hd, hl, hz⟩ | ⟨hd, hl, hz⟩ | ⟨hd, hl, hz⟩
            · exact call_static IH X hs hd hl hz hcr hfr hlo (by omega) (by omega)
            · exact call_virt IH X hs hd hl hz hcr hfr hlo (by omega) (by omega)
            · exact call_spec IH X hs hd hl hz hcr hfr hlo (by omega) (by omega)
          obtain ⟨crest, cargs, hrest, hrun⟩ := key
          obtain ⟨cl, rfl⟩ : ∃ cl : List Value, cargs = cl.toArray := ⟨cargs.toList, by simp⟩
          exact call_go (y := y) (as := as) (r1 := .inr E) IH X hmi hrest hfr hlo hc hsl g1 hx4 h hE hrun
end S15
end
section
/-! PURE WORK: a run that ends with Q, as a proposition that each instruction rewrites -/
def Wp (d mi pc : Nat) (lo : Lo) (st : List Value) (σ : St) (Q : Rs → St → Prop) : Prop := ∃ n r σ', run n d mi pc lo st σ = some (r, σ') ∧ Q r σ'
/-- what follows a call -/
def kn (d mi pc rp : Nat) (lo : Lo) (st : List Value) (Q : Rs → St → Prop) (r : Rs) (σ : St) : Prop := match r with
  | .inl v => Wp d mi rp lo (v.toList ++ st) σ Q
  | .inr E => match hnd (mOw mi) (mHn mi) pc E with
    | some h => Wp d mi h lo [.retAddr 0] σ Q
    | none => Q (.inr E) σ
theorem run_le {n n' d mi pc : Nat} {lo : Lo} {st : List Value} {σ : St} {r : Rs × St} (hn : n ≤ n') (h : run n d mi pc lo st σ = some r) : run n' d mi pc lo st σ = some r := by
  induction hn with
  | refl => exact h
  | step _ ih => exact run_mono _ _ _ _ _ _ _ _ ih
section S16
variable {d mi pc : Nat} {lo : Lo} {st : List Value} {σ : St} {Q Q' : Rs → St → Prop}
theorem Wp.mono (h : Wp d mi pc lo st σ Q) (hq : ∀ r σ', Q r σ' → Q' r σ') : Wp d mi pc lo st σ Q' := by
  obtain ⟨n, r, σ', h1, h2⟩ := h
  exact ⟨n, r, σ', h1, hq _ _ h2⟩
theorem Wp.step {pc' : Nat} {lo' : Lo} {st' : List Value} {σ' : St} (h : stp mi pc lo st σ = some (.inl (pc', lo', st', σ'))) : Wp d mi pc lo st σ Q = Wp d mi pc' lo' st' σ' Q := by
  apply propext
  constructor
  · rintro ⟨n, r, σ2, h1, h2⟩
    cases n with
    | zero => simp [run] at h1
    | succ n =>
      rw [run, h] at h1
      exact ⟨n, r, σ2, h1, h2⟩
  · rintro ⟨n, r, σ2, h1, h2⟩
    exact ⟨n + 1, r, σ2, by rw [run, h]; exact h1, h2⟩
theorem Wp.done {r : Rs} {σ' : St} (h : stp mi pc lo st σ = some (.inr (.inl (r, σ')))) : Wp d mi pc lo st σ Q = Q r σ' := by
  apply propext
  constructor
  · rintro ⟨n, r2, σ2, h1, h2⟩
    cases n with
    | zero => simp [run] at h1
    | succ n =>
      rw [run, h] at h1
      cases h1
      exact h2
  · intro hq
    exact ⟨1, r, σ', by rw [run, h], hq⟩
theorem Wp.call {y rp : Nat} {as st' : List Value} (hr : pc + 3 = rp) (h : stp mi pc lo st σ = some (.inr (.inr (y, as, st')))) : Wp (d + 1) mi pc lo st σ Q = Wp d y 0 (ent y as) [] σ (kn (d + 1) mi pc rp lo st' Q) := by
  subst hr
  apply propext
  constructor
  · rintro ⟨n, r2, σ2, h1, h2⟩
    cases n with
    | zero => simp [run] at h1
    | succ n =>
      rw [run, h] at h1
      dsimp only at h1
      match hc : run n d y 0 (ent y as) [] σ with
      | none => rw [hc] at h1; cases h1
      | some (.inl v, σ1) =>
        rw [hc] at h1
        exact ⟨n, _, _, hc, n, r2, σ2, h1, h2⟩
      | some (.inr E, σ1) =>
        rw [hc] at h1
        refine ⟨n, _, _, hc, ?_⟩
        show (match hnd (mOw mi) (mHn mi) pc E with
          | some h => Wp (d + 1) mi h lo [.retAddr 0] σ1 Q
          | none => Q (.inr E) σ1)
        dsimp only at h1
        match hh : hnd (mOw mi) (mHn mi) pc E with
        | none => rw [hh] at h1; cases h1; exact h2
        | some q => rw [hh] at h1; exact ⟨n, r2, σ2, h1, h2⟩
  · rintro ⟨n, r1, σ1, h1, h2⟩
    match r1, h1, h2 with
    | .inl v, h1, ⟨n2, r2, σ2, h3, h4⟩ =>
      refine ⟨max n n2 + 1, r2, σ2, ?_, h4⟩
      rw [run, h]
      dsimp only
      rw [run_le (Nat.le_max_left n n2) h1]
      exact run_le (Nat.le_max_right n n2) h3
    | .inr E, h1, h2 =>
      have h5 : (match hnd (mOw mi) (mHn mi) pc E with
          | some h => Wp (d + 1) mi h lo [.retAddr 0] σ1 Q
          | none => Q (.inr E) σ1) := h2
      match hh : hnd (mOw mi) (mHn mi) pc E with
      | none =>
        rw [hh] at h5
        refine ⟨n + 1, .inr E, σ1, ?_, h5⟩
        rw [run, h]
        dsimp only
        rw [h1]
        dsimp only
        rw [hh]
      | some q =>
        rw [hh] at h5
        obtain ⟨n2, r2, σ2, h3, h4⟩ := h5
        refine ⟨max n n2 + 1, r2, σ2, ?_, h4⟩
        rw [run, h]
        dsimp only
        rw [run_le (Nat.le_max_left n n2) h1]
        dsimp only
        rw [hh]
        exact run_le (Nat.le_max_right n n2) h3
theorem kn_s {rp : Nat} {v : Value} : kn d mi pc rp lo st Q (.inl (some v)) σ = Wp d mi rp lo (v :: st) σ Q := rfl
theorem kn_n {rp : Nat} : kn d mi pc rp lo st Q (.inl none) σ = Wp d mi rp lo st σ Q := rfl
theorem kn_x {rp E : Nat} (h : mHn mi = []) : kn d mi pc rp lo st Q (.inr E) σ = Q (.inr E) σ := by
  unfold kn
  rw [h]
  rfl
theorem kn_h {rp E h : Nat} (hh : hnd (mOw mi) (mHn mi) pc E = some h) : kn d mi pc rp lo st Q (.inr E) σ = Wp d mi h lo [.retAddr 0] σ Q := by
  unfold kn
  dsimp only
  rw [hh]
/-! decoding -/
def DC (mi pc : Nat) (i : Instr) : Prop := decode (mCd mi) pc = .ok (i, ilen i)
theorem stp_of {i : Instr} (hd : DC mi pc i) : stp mi pc lo st σ = zins mi pc lo st σ i := by
  have hd : decode (mCd mi) pc = .ok (i, ilen i) := hd
  unfold stp
  rw [hd]
  cases i <;> first | rfl | exact if_pos rfl
/-! an instruction, a rule -/
theorem wp_aload_n {k : Fin 4} {v : Value} (hd : DC mi pc (.aload_n k)) (hl : lo[(k : Nat)]? = some (some v)) (hv : zk v = 4) : Wp d mi pc lo st σ Q = Wp d mi (pc + 1) lo (v :: st) σ Q :=
  Wp.step (by rw [stp_of hd]; show zld 4 k (pc + 1) lo st σ = _; unfold zld; rw [hl]; dsimp only; rw [if_pos hv]; rfl)
theorem wp_aload {k : Nat} {v : Value} (hd : DC mi pc (.aload k)) (hl : lo[k]? = some (some v)) (hv : zk v = 4) : Wp d mi pc lo st σ Q = Wp d mi (pc + 2) lo (v :: st) σ Q :=
  Wp.step (by rw [stp_of hd]; show zld 4 k (pc + 2) lo st σ = _; unfold zld; rw [hl]; dsimp only; rw [if_pos hv]; rfl)
theorem wp_iload_n {k : Fin 4} {x : Int32} (hd : DC mi pc (.iload_n k)) (hl : lo[(k : Nat)]? = some (some (.int x))) : Wp d mi pc lo st σ Q = Wp d mi (pc + 1) lo (.int x :: st) σ Q :=
  Wp.step (by rw [stp_of hd]; show zld 0 k (pc + 1) lo st σ = _; unfold zld; rw [hl]; rfl)
theorem wp_iload {k : Nat} {x : Int32} (hd : DC mi pc (.iload k)) (hl : lo[k]? = some (some (.int x))) : Wp d mi pc lo st σ Q = Wp d mi (pc + 2) lo (.int x :: st) σ Q :=
  Wp.step (by rw [stp_of hd]; show zld 0 k (pc + 2) lo st σ = _; unfold zld; rw [hl]; rfl)
theorem wp_lload_n {k : Fin 4} {x : Int64} (hd : DC mi pc (.lload_n k)) (hl : lo[(k : Nat)]? = some (some (.long x))) : Wp d mi pc lo st σ Q = Wp d mi (pc + 1) lo (.long x :: st) σ Q :=
  Wp.step (by rw [stp_of hd]; show zld 1 k (pc + 1) lo st σ = _; unfold zld; rw [hl]; rfl)
theorem wp_lload {k : Nat} {x : Int64} (hd : DC mi pc (.lload k)) (hl : lo[k]? = some (some (.long x))) : Wp d mi pc lo st σ Q = Wp d mi (pc + 2) lo (.long x :: st) σ Q :=
  Wp.step (by rw [stp_of hd]; show zld 1 k (pc + 2) lo st σ = _; unfold zld; rw [hl]; rfl)
theorem wp_fload {k : Nat} {x : UInt32} (hd : DC mi pc (.fload k)) (hl : lo[k]? = some (some (.float x))) : Wp d mi pc lo st σ Q = Wp d mi (pc + 2) lo (.float x :: st) σ Q :=
  Wp.step (by rw [stp_of hd]; show zld 2 k (pc + 2) lo st σ = _; unfold zld; rw [hl]; rfl)
theorem wp_dload {k : Nat} {x : UInt64} (hd : DC mi pc (.dload k)) (hl : lo[k]? = some (some (.double x))) : Wp d mi pc lo st σ Q = Wp d mi (pc + 2) lo (.double x :: st) σ Q :=
  Wp.step (by rw [stp_of hd]; show zld 3 k (pc + 2) lo st σ = _; unfold zld; rw [hl]; rfl)
theorem wp_astore_n {k : Fin 4} {v : Value} {lo' : Lo} (hd : DC mi pc (.astore_n k)) (hk : (k : Nat) < lo.length) (hl : lset1 lo k v = lo') (hv : zk v = 4) : Wp d mi pc lo (v :: st) σ Q = Wp d mi (pc + 1) lo' st σ Q :=
  Wp.step (by rw [stp_of hd]; show zst 4 k (pc + 1) lo (v :: st) σ = _; unfold zst; dsimp only; rw [if_pos ⟨hv, hk⟩, hl]; rfl)
theorem wp_astore {k : Nat} {v : Value} {lo' : Lo} (hd : DC mi pc (.astore k)) (hk : k < lo.length) (hl : lset1 lo k v = lo') (hv : zk v = 4) : Wp d mi pc lo (v :: st) σ Q = Wp d mi (pc + 2) lo' st σ Q :=
  Wp.step (by rw [stp_of hd]; show zst 4 k (pc + 2) lo (v :: st) σ = _; unfold zst; dsimp only; rw [if_pos ⟨hv, hk⟩, hl]; rfl)
theorem wp_istore_n {k : Fin 4} {x : Int32} {lo' : Lo} (hd : DC mi pc (.istore_n k)) (hk : (k : Nat) < lo.length) (hl : lset1 lo k (.int x) = lo') : Wp d mi pc lo (.int x :: st) σ Q = Wp d mi (pc + 1) lo' st σ Q :=
  Wp.step (by rw [stp_of hd]; show zst 0 k (pc + 1) lo (.int x :: st) σ = _; unfold zst; dsimp only; rw [if_pos ⟨rfl, hk⟩, hl]; rfl)
theorem wp_istore {k : Nat} {x : Int32} {lo' : Lo} (hd : DC mi pc (.istore k)) (hk : k < lo.length) (hl : lset1 lo k (.int x) = lo') : Wp d mi pc lo (.int x :: st) σ Q = Wp d mi (pc + 2) lo' st σ Q :=
  Wp.step (by rw [stp_of hd]; show zst 0 k (pc + 2) lo (.int x :: st) σ = _; unfold zst; dsimp only; rw [if_pos ⟨rfl, hk⟩, hl]; rfl)
theorem wp_fstore {k : Nat} {x : UInt32} {lo' : Lo} (hd : DC mi pc (.fstore k)) (hk : k < lo.length) (hl : lset1 lo k (.float x) = lo') : Wp d mi pc lo (.float x :: st) σ Q = Wp d mi (pc + 2) lo' st σ Q :=
  Wp.step (by rw [stp_of hd]; show zst 2 k (pc + 2) lo (.float x :: st) σ = _; unfold zst; dsimp only; rw [if_pos ⟨rfl, hk⟩, hl]; rfl)
theorem wp_lstore_n {k : Fin 4} {x : Int64} {lo' : Lo} (hd : DC mi pc (.lstore_n k)) (hk : (k : Nat) + 1 < lo.length) (hl : lset2 lo k (.long x) = lo') : Wp d mi pc lo (.long x :: st) σ Q = Wp d mi (pc + 1) lo' st σ Q :=
  Wp.step (by rw [stp_of hd]; show zst2 1 k (pc + 1) lo (.long x :: st) σ = _; unfold zst2; dsimp only; rw [if_pos ⟨rfl, hk⟩, hl]; rfl)
theorem wp_lstore {k : Nat} {x : Int64} {lo' : Lo} (hd : DC mi pc (.lstore k)) (hk : k + 1 < lo.length) (hl : lset2 lo k (.long x) = lo') : Wp d mi pc lo (.long x :: st) σ Q = Wp d mi (pc + 2) lo' st σ Q :=
  Wp.step (by rw [stp_of hd]; show zst2 1 k (pc + 2) lo (.long x :: st) σ = _; unfold zst2; dsimp only; rw [if_pos ⟨rfl, hk⟩, hl]; rfl)
theorem wp_dstore {k : Nat} {x : UInt64} {lo' : Lo} (hd : DC mi pc (.dstore k)) (hk : k + 1 < lo.length) (hl : lset2 lo k (.double x) = lo') : Wp d mi pc lo (.double x :: st) σ Q = Wp d mi (pc + 2) lo' st σ Q :=
  Wp.step (by rw [stp_of hd]; show zst2 3 k (pc + 2) lo (.double x :: st) σ = _; unfold zst2; dsimp only; rw [if_pos ⟨rfl, hk⟩, hl]; rfl)
theorem wp_iinc {k : Nat} {n : Int} {x c : Int32} {lo' : Lo} (hd : DC mi pc (.iinc k n)) (hc : Int32.ofInt n = c) (hl : lo[k]? = some (some (.int x))) (hl' : lset1 lo k (.int (x + c)) = lo') : Wp d mi pc lo st σ Q = Wp d mi (pc + 3) lo' st σ Q :=
  Wp.step (by subst hc; rw [stp_of hd]; simp only [zins]; rw [hl]; dsimp only; rw [hl']; rfl)
theorem wp_const {i : Instr} {v : Value} {q : Nat} (hd : DC mi pc i) (hz : zins mi pc lo st σ i = nx q lo (v :: st) σ) : Wp d mi pc lo st σ Q = Wp d mi q lo (v :: st) σ Q :=
  Wp.step (by rw [stp_of hd, hz]; rfl)
theorem wp_iconst {n : Int} {c : Int32} (hd : DC mi pc (.iconst n)) (hc : Int32.ofInt n = c) : Wp d mi pc lo st σ Q = Wp d mi (pc + 1) lo (.int c :: st) σ Q := by subst hc; exact wp_const hd rfl
theorem wp_bipush {n : Int} {c : Int32} (hd : DC mi pc (.bipush n)) (hc : (Int8.ofInt n).toInt32 = c) : Wp d mi pc lo st σ Q = Wp d mi (pc + 2) lo (.int c :: st) σ Q := by subst hc; exact wp_const hd rfl
theorem wp_sipush {n : Int} {c : Int32} (hd : DC mi pc (.sipush n)) (hc : (Int16.ofInt n).toInt32 = c) : Wp d mi pc lo st σ Q = Wp d mi (pc + 3) lo (.int c :: st) σ Q := by subst hc; exact wp_const hd rfl
theorem wp_any {i : Instr} {q : Nat} {lo' : Lo} {st' : List Value} {σ' : St} (hd : DC mi pc i) (hz : zins mi pc lo st σ i = some (.inl (q, lo', st', σ'))) : Wp d mi pc lo st σ Q = Wp d mi q lo' st' σ' Q :=
  Wp.step (by rw [stp_of hd, hz])
theorem wp_ret {i : Instr} {r : Rs} {σ' : St} (hd : DC mi pc i) (hz : zins mi pc lo st σ i = some (.inr (.inl (r, σ')))) : Wp d mi pc lo st σ Q = Q r σ' :=
  Wp.done (by rw [stp_of hd, hz])
theorem tbr_if {t f : Nat} {off : Int} {b : Bool} (h1 : 0 ≤ (pc : Int) + off) (h2 : ((pc : Int) + off).toNat = t) (h3 : pc + 3 = f) {P : Prop} [Decidable P] (hb : b = decide P) {i : Instr} {st' : List Value} (hd : DC mi pc i) (hz : zins mi pc lo st σ i = tbr pc off b lo st' σ) :
    Wp d mi pc lo st σ Q = if P then Wp d mi t lo st' σ Q else Wp d mi f lo st' σ Q := by
  subst h2; subst h3; subst hb
  rw [Wp.step (show stp mi pc lo st σ = some (.inl (if decide P = true then ((pc : Int) + off).toNat else pc + 3, lo, st', σ)) by rw [stp_of hd, hz]; unfold tbr; rw [if_pos h1]; rfl)]
  by_cases h : P <;> simp [h]
theorem tbr_ifn {t f : Nat} {off : Int} {b : Bool} (h1 : 0 ≤ (pc : Int) + off) (h2 : ((pc : Int) + off).toNat = t) (h3 : pc + 3 = f) {P : Prop} [Decidable P] (hb : b = decide (¬ P)) {i : Instr} {st' : List Value} (hd : DC mi pc i) (hz : zins mi pc lo st σ i = tbr pc off b lo st' σ) :
    Wp d mi pc lo st σ Q = if P then Wp d mi f lo st' σ Q else Wp d mi t lo st' σ Q := by
  rw [tbr_if h1 h2 h3 hb hd hz]
  by_cases h : P <;> simp [h]
theorem i32_ge {x y : Int32} : decide (y ≤ x) = decide (¬ x < y) := by simp only [Int32.not_lt]
section branches
variable {t f : Nat} {off : Int} {x y : Int32}
theorem wp_ifeq (hd : DC mi pc (.ifCond .eq off)) (h1 : 0 ≤ (pc : Int) + off) (h2 : ((pc : Int) + off).toNat = t) (h3 : pc + 3 = f) : Wp d mi pc lo (.int x :: st) σ Q = if x = 0 then Wp d mi t lo st σ Q else Wp d mi f lo st σ Q := tbr_if h1 h2 h3 (b := cB .eq x 0) rfl hd rfl
theorem wp_ifne (hd : DC mi pc (.ifCond .ne off)) (h1 : 0 ≤ (pc : Int) + off) (h2 : ((pc : Int) + off).toNat = t) (h3 : pc + 3 = f) : Wp d mi pc lo (.int x :: st) σ Q = if x = 0 then Wp d mi f lo st σ Q else Wp d mi t lo st σ Q := tbr_ifn h1 h2 h3 (b := cB .ne x 0) rfl hd rfl
theorem wp_iflt (hd : DC mi pc (.ifCond .lt off)) (h1 : 0 ≤ (pc : Int) + off) (h2 : ((pc : Int) + off).toNat = t) (h3 : pc + 3 = f) : Wp d mi pc lo (.int x :: st) σ Q = if x < 0 then Wp d mi t lo st σ Q else Wp d mi f lo st σ Q := tbr_if h1 h2 h3 (b := cB .lt x 0) rfl hd rfl
theorem wp_ifge (hd : DC mi pc (.ifCond .ge off)) (h1 : 0 ≤ (pc : Int) + off) (h2 : ((pc : Int) + off).toNat = t) (h3 : pc + 3 = f) : Wp d mi pc lo (.int x :: st) σ Q = if x < 0 then Wp d mi f lo st σ Q else Wp d mi t lo st σ Q := tbr_ifn h1 h2 h3 (b := cB .ge x 0) i32_ge hd rfl
theorem wp_ifgt (hd : DC mi pc (.ifCond .gt off)) (h1 : 0 ≤ (pc : Int) + off) (h2 : ((pc : Int) + off).toNat = t) (h3 : pc + 3 = f) : Wp d mi pc lo (.int x :: st) σ Q = if 0 < x then Wp d mi t lo st σ Q else Wp d mi f lo st σ Q := tbr_if h1 h2 h3 (b := cB .gt x 0) rfl hd rfl
theorem wp_ifle (hd : DC mi pc (.ifCond .le off)) (h1 : 0 ≤ (pc : Int) + off) (h2 : ((pc : Int) + off).toNat = t) (h3 : pc + 3 = f) : Wp d mi pc lo (.int x :: st) σ Q = if 0 < x then Wp d mi f lo st σ Q else Wp d mi t lo st σ Q := tbr_ifn h1 h2 h3 (b := cB .le x 0) i32_ge hd rfl
theorem wp_icmpeq (hd : DC mi pc (.if_icmp .eq off)) (h1 : 0 ≤ (pc : Int) + off) (h2 : ((pc : Int) + off).toNat = t) (h3 : pc + 3 = f) : Wp d mi pc lo (.int y :: .int x :: st) σ Q = if x = y then Wp d mi t lo st σ Q else Wp d mi f lo st σ Q := tbr_if h1 h2 h3 (b := cB .eq x y) rfl hd rfl
theorem wp_icmpne (hd : DC mi pc (.if_icmp .ne off)) (h1 : 0 ≤ (pc : Int) + off) (h2 : ((pc : Int) + off).toNat = t) (h3 : pc + 3 = f) : Wp d mi pc lo (.int y :: .int x :: st) σ Q = if x = y then Wp d mi f lo st σ Q else Wp d mi t lo st σ Q := tbr_ifn h1 h2 h3 (b := cB .ne x y) rfl hd rfl
theorem wp_icmplt (hd : DC mi pc (.if_icmp .lt off)) (h1 : 0 ≤ (pc : Int) + off) (h2 : ((pc : Int) + off).toNat = t) (h3 : pc + 3 = f) : Wp d mi pc lo (.int y :: .int x :: st) σ Q = if x < y then Wp d mi t lo st σ Q else Wp d mi f lo st σ Q := tbr_if h1 h2 h3 (b := cB .lt x y) rfl hd rfl
theorem wp_icmpge (hd : DC mi pc (.if_icmp .ge off)) (h1 : 0 ≤ (pc : Int) + off) (h2 : ((pc : Int) + off).toNat = t) (h3 : pc + 3 = f) : Wp d mi pc lo (.int y :: .int x :: st) σ Q = if x < y then Wp d mi f lo st σ Q else Wp d mi t lo st σ Q := tbr_ifn h1 h2 h3 (b := cB .ge x y) i32_ge hd rfl
theorem wp_icmpgt (hd : DC mi pc (.if_icmp .gt off)) (h1 : 0 ≤ (pc : Int) + off) (h2 : ((pc : Int) + off).toNat = t) (h3 : pc + 3 = f) : Wp d mi pc lo (.int y :: .int x :: st) σ Q = if y < x then Wp d mi t lo st σ Q else Wp d mi f lo st σ Q := tbr_if h1 h2 h3 (b := cB .gt x y) rfl hd rfl
theorem wp_icmple (hd : DC mi pc (.if_icmp .le off)) (h1 : 0 ≤ (pc : Int) + off) (h2 : ((pc : Int) + off).toNat = t) (h3 : pc + 3 = f) : Wp d mi pc lo (.int y :: .int x :: st) σ Q = if y < x then Wp d mi f lo st σ Q else Wp d mi t lo st σ Q := tbr_ifn h1 h2 h3 (b := cB .le x y) i32_ge hd rfl
theorem wp_go {i : Instr} {st' : List Value} (hd : DC mi pc i) (hz : zins mi pc lo st σ i = tgo pc off lo st' σ) (h1 : 0 ≤ (pc : Int) + off) (h2 : ((pc : Int) + off).toNat = t) : Wp d mi pc lo st σ Q = Wp d mi t lo st' σ Q := by
  subst h2
  exact Wp.step (by rw [stp_of hd, hz]; unfold tgo; rw [if_pos h1]; rfl)
theorem wp_sw {a lw hi : Int} {offs : Array Int} {len : Nat} (hd : decode (mCd mi) pc = .ok (.tableswitch a lw hi offs, len)) (hz : zins mi pc lo (.int x :: st) σ (.tableswitch a lw hi offs) = tgo pc off lo st σ) (h1 : 0 ≤ (pc : Int) + off) (h2 : ((pc : Int) + off).toNat = t) : Wp d mi pc lo (.int x :: st) σ Q = Wp d mi t lo st σ Q := by
  subst h2
  refine Wp.step ?_
  have : stp mi pc lo (.int x :: st) σ = zins mi pc lo (.int x :: st) σ (.tableswitch a lw hi offs) := by
    unfold stp
    rw [hd]
  rw [this, hz]
  unfold tgo
  rw [if_pos h1]
  rfl
end branches
/-! links -/
theorem wp_ldcS {own idx j b rp : Nat} {i : Instr} (hd : DC mi pc i) (hi : i = .ldc idx ∧ pc + 2 = rp ∨ i = .ldc_w idx ∧ pc + 3 = rp) (ho : mOw mi = own) (hl : lkq own idx = some (7, j, b)) : Wp d mi pc lo st σ Q = Wp d mi rp lo (.ref (1 + j) :: st) σ Q := by
  subst ho
  rcases hi with ⟨rfl, rfl⟩ | ⟨rfl, rfl⟩ <;> exact wp_any hd (by simp only [zins, hl, nx])
theorem wp_ldcI {own idx v b : Nat} {c : Int32} (hd : DC mi pc (.ldc idx)) (ho : mOw mi = own) (hl : lkq own idx = some (8, v, b)) (hc : Int32.ofNat v = c) : Wp d mi pc lo st σ Q = Wp d mi (pc + 2) lo (.int c :: st) σ Q := by
  subst ho; subst hc
  exact wp_any hd (by simp only [zins, hl, nx])
theorem wp_ldcL {own idx v b : Nat} {c : Int64} (hd : DC mi pc (.ldc2_w idx)) (ho : mOw mi = own) (hl : lkq own idx = some (9, v, b)) (hc : lkI v b = c) : Wp d mi pc lo st σ Q = Wp d mi (pc + 3) lo (.long c :: st) σ Q := by
  subst ho; subst hc
  exact wp_any hd (by simp only [zins, hl, nx])
theorem wp_ldcD {own idx v b : Nat} (hd : DC mi pc (.ldc2_w idx)) (ho : mOw mi = own) (hl : lkq own idx = some (10, v, b)) : Wp d mi pc lo st σ Q = Wp d mi (pc + 3) lo (.double (UInt64.ofNat v) :: st) σ Q := by
  subst ho
  exact wp_any hd (by simp only [zins, hl, nx])
section fields
variable {own idx ci k a : Nat}
theorem wp_get {v : Value} (hd : DC mi pc (.getfield idx)) (ho : mOw mi = own) (hl : lkq own idx = some (0, ci, k)) (hv : gvl σ ci k a = v) (hz : zh σ a = (ci + 1, 0)) : Wp d mi pc lo (.ref a :: st) σ Q = Wp d mi (pc + 3) lo (v :: st) σ Q := by
  subst ho; subst hv
  exact wp_any hd (by simp only [zins, hl, hz, if_true, nx])
theorem wp_getI (hd : DC mi pc (.getfield idx)) (ho : mOw mi = own) (hl : lkq own idx = some (0, ci, k)) (hf : fso (zTY ci k) = 0) (hz : zh σ a = (ci + 1, 0)) : Wp d mi pc lo (.ref a :: st) σ Q = Wp d mi (pc + 3) lo (.int (zI σ a k) :: st) σ Q :=
  wp_get hd ho hl (by unfold gvl; rw [hf]; rfl) hz
theorem wp_getL (hd : DC mi pc (.getfield idx)) (ho : mOw mi = own) (hl : lkq own idx = some (0, ci, k)) (hf : fso (zTY ci k) = 1) (hz : zh σ a = (ci + 1, 0)) : Wp d mi pc lo (.ref a :: st) σ Q = Wp d mi (pc + 3) lo (.long (zL σ a k) :: st) σ Q :=
  wp_get hd ho hl (by unfold gvl; rw [hf]; rfl) hz
theorem wp_getR (hd : DC mi pc (.getfield idx)) (ho : mOw mi = own) (hl : lkq own idx = some (0, ci, k)) (hf : fso (zTY ci k) = 2) (hz : zh σ a = (ci + 1, 0)) : Wp d mi pc lo (.ref a :: st) σ Q = Wp d mi (pc + 3) lo (rv (zR σ a k) :: st) σ Q :=
  wp_get hd ho hl (by unfold gvl; rw [hf]; rfl) hz
theorem wp_getSv (hd : DC mi pc (.getfield idx)) (ho : mOw mi = own) {u v : Nat} (hl : lkq own idx = some (17, u, v)) (hz : (zh σ a).1 = 20) : Wp d mi pc lo (.ref a :: st) σ Q = Wp d mi (pc + 3) lo (.ref (a + 7) :: st) σ Q := by
  subst ho
  exact wp_any hd (by simp only [zins, hl, hz, if_true, nx])
theorem wp_getSc (hd : DC mi pc (.getfield idx)) (ho : mOw mi = own) {u v : Nat} (hl : lkq own idx = some (18, u, v)) (hz : (zh σ a).1 = 20) : Wp d mi pc lo (.ref a :: st) σ Q = Wp d mi (pc + 3) lo (.int 0 :: st) σ Q := by
  subst ho
  exact wp_any hd (by simp only [zins, hl, hz, if_true, nx])
theorem wp_gets1 (hd : DC mi pc (.getstatic idx)) (ho : mOw mi = own) {u v : Nat} (hl : lkq own idx = some (19, u, v)) : Wp d mi pc lo st σ Q = Wp d mi (pc + 3) lo (.int 1 :: st) σ Q := by
  subst ho
  exact wp_any hd (by simp only [zins, hl, nx])
theorem wp_gets2 (hd : DC mi pc (.getstatic idx)) (ho : mOw mi = own) {u v : Nat} (hl : lkq own idx = some (20, u, v)) : Wp d mi pc lo st σ Q = Wp d mi (pc + 3) lo (.retAddr 0 :: st) σ Q := by
  subst ho
  exact wp_any hd (by simp only [zins, hl, nx])
theorem wp_put {v : Value} {σ' : St} (hd : DC mi pc (.putfield idx)) (ho : mOw mi = own) (hl : lkq own idx = some (0, ci, k)) (hp : pvl σ ci k a v = some σ') (hfin : (zT ci k).2.2.2 = true → mKd mi = 2 ∧ mOw mi = ci) (hok : okv (zTY ci k) v = true) (hz : zh σ a = (ci + 1, 0)) : Wp d mi pc lo (v :: .ref a :: st) σ Q = Wp d mi (pc + 3) lo st σ' Q := by
  subst ho
  exact wp_any hd (by simp only [zins, hl, nx]; rw [if_pos ⟨hz, hok, hfin⟩, hp])
theorem wp_putI {x : Int32} (hd : DC mi pc (.putfield idx)) (ho : mOw mi = own) (hl : lkq own idx = some (0, ci, k)) (hf : fso (zTY ci k) = 0) (hfin : (zT ci k).2.2.2 = true → mKd mi = 2 ∧ mOw mi = ci) (hok : okv (zTY ci k) (.int x) = true) (hz : zh σ a = (ci + 1, 0)) : Wp d mi pc lo (.int x :: .ref a :: st) σ Q = Wp d mi (pc + 3) lo st (wI σ a k x) Q :=
  wp_put hd ho hl (by unfold pvl; rw [hf]; rfl) hfin hok hz
theorem wp_putL {x : Int64} (hd : DC mi pc (.putfield idx)) (ho : mOw mi = own) (hl : lkq own idx = some (0, ci, k)) (hf : fso (zTY ci k) = 1) (hfin : (zT ci k).2.2.2 = true → mKd mi = 2 ∧ mOw mi = ci) (hok : okv (zTY ci k) (.long x) = true) (hz : zh σ a = (ci + 1, 0)) : Wp d mi pc lo (.long x :: .ref a :: st) σ Q = Wp d mi (pc + 3) lo st (wL σ a k x) Q :=
  wp_put hd ho hl (by unfold pvl; rw [hf]; rfl) hfin hok hz
theorem wp_putR {x : Nat} (hd : DC mi pc (.putfield idx)) (ho : mOw mi = own) (hl : lkq own idx = some (0, ci, k)) (hf : fso (zTY ci k) = 2) (hfin : (zT ci k).2.2.2 = true → mKd mi = 2 ∧ mOw mi = ci) (hok : okv (zTY ci k) (.ref x) = true) (hz : zh σ a = (ci + 1, 0)) : Wp d mi pc lo (.ref x :: .ref a :: st) σ Q = Wp d mi (pc + 3) lo st (wR σ a k (x + 1)) Q :=
  wp_put hd ho hl (by unfold pvl; rw [hf]; rfl) hfin hok hz
end fields
section arrays
variable {a : Nat} {i x : Int32}
theorem wp_iald (hd : DC mi pc .iaload) (h1 : (zh σ a).1 = 11 ∨ (zh σ a).1 = 19) (h2 : inx i (zh σ a).2 = true) : Wp d mi pc lo (.int i :: .ref a :: st) σ Q = Wp d mi (pc + 1) lo (.int (zI σ a i.toNatClampNeg) :: st) σ Q :=
  wp_any hd (by simp only [zins]; rw [if_pos ⟨h1, h2⟩]; rfl)
theorem wp_lald (hd : DC mi pc .laload) (h1 : (zh σ a).1 = 12) (h2 : inx i (zh σ a).2 = true) : Wp d mi pc lo (.int i :: .ref a :: st) σ Q = Wp d mi (pc + 1) lo (.long (zL σ a i.toNatClampNeg) :: st) σ Q :=
  wp_any hd (by simp only [zins]; rw [if_pos ⟨h1, h2⟩]; rfl)
theorem wp_bald (hd : DC mi pc .baload) (h1 : (zh σ a).1 = 13 ∨ (zh σ a).1 = 14 ∨ (zh σ a).1 = 21) (h2 : inx i (zh σ a).2 = true) : Wp d mi pc lo (.int i :: .ref a :: st) σ Q = Wp d mi (pc + 1) lo (.int (zI σ a i.toNatClampNeg) :: st) σ Q :=
  wp_any hd (by simp only [zins]; rw [if_pos ⟨h1, h2⟩]; rfl)
theorem wp_dald (hd : DC mi pc .daload) (h1 : (zh σ a).1 = 15) (h2 : inx i (zh σ a).2 = true) : Wp d mi pc lo (.int i :: .ref a :: st) σ Q = Wp d mi (pc + 1) lo (.double (zD σ a i.toNatClampNeg) :: st) σ Q :=
  wp_any hd (by simp only [zins]; rw [if_pos ⟨h1, h2⟩]; rfl)
theorem wp_aald (hd : DC mi pc .aaload) (h1 : (zh σ a).1 = 16 ∨ (zh σ a).1 = 17 ∨ (zh σ a).1 = 18) (h2 : inx i (zh σ a).2 = true) : Wp d mi pc lo (.int i :: .ref a :: st) σ Q = Wp d mi (pc + 1) lo (rv (zR σ a i.toNatClampNeg) :: st) σ Q :=
  wp_any hd (by simp only [zins]; rw [if_pos ⟨h1, h2⟩]; rfl)
theorem wp_iast (hd : DC mi pc .iastore) (h1 : (zh σ a).1 = 11) (h2 : inx i (zh σ a).2 = true) : Wp d mi pc lo (.int x :: .int i :: .ref a :: st) σ Q = Wp d mi (pc + 1) lo st (wI σ a i.toNatClampNeg x) Q :=
  wp_any hd (by simp only [zins]; rw [if_pos ⟨h1, h2⟩]; rfl)
theorem wp_last {x : Int64} (hd : DC mi pc .lastore) (h1 : (zh σ a).1 = 12) (h2 : inx i (zh σ a).2 = true) : Wp d mi pc lo (.long x :: .int i :: .ref a :: st) σ Q = Wp d mi (pc + 1) lo st (wL σ a i.toNatClampNeg x) Q :=
  wp_any hd (by simp only [zins]; rw [if_pos ⟨h1, h2⟩]; rfl)
theorem wp_bast (hd : DC mi pc .bastore) (h1 : (zh σ a).1 = 13) (h2 : inx i (zh σ a).2 = true) : Wp d mi pc lo (.int x :: .int i :: .ref a :: st) σ Q = Wp d mi (pc + 1) lo st (wI σ a i.toNatClampNeg (vp_nar .byte x)) Q :=
  wp_any hd (by simp only [zins]; rw [if_pos h2, if_pos h1]; rfl)
theorem wp_zast (hd : DC mi pc .bastore) (h1 : (zh σ a).1 = 14) (h2 : inx i (zh σ a).2 = true) : Wp d mi pc lo (.int x :: .int i :: .ref a :: st) σ Q = Wp d mi (pc + 1) lo st (wI σ a i.toNatClampNeg (vp_nar .boolean x)) Q :=
  wp_any hd (by simp only [zins]; rw [if_pos h2, if_neg (by omega), if_pos h1]; rfl)
theorem wp_dast {x : UInt64} (hd : DC mi pc .dastore) (h1 : (zh σ a).1 = 15) (h2 : inx i (zh σ a).2 = true) : Wp d mi pc lo (.double x :: .int i :: .ref a :: st) σ Q = Wp d mi (pc + 1) lo st (wD σ a i.toNatClampNeg x) Q :=
  wp_any hd (by simp only [zins]; rw [if_pos ⟨h1, h2⟩]; rfl)
theorem wp_aast {v : Nat} (hd : DC mi pc .aastore) (h1 : (zh σ a).1 = 16 ∨ (zh σ a).1 = 17 ∨ (zh σ a).1 = 18) (h2 : inx i (zh σ a).2 = true) (h3 : zh σ v = (elC (zh σ a).1 + 1, 0)) : Wp d mi pc lo (.ref v :: .int i :: .ref a :: st) σ Q = Wp d mi (pc + 1) lo st (wR σ a i.toNatClampNeg (v + 1)) Q :=
  wp_any hd (by simp only [zins]; rw [if_pos ⟨h1, h2, h3⟩]; rfl)
theorem wp_alen (hd : DC mi pc .arraylength) (h1 : (11 ≤ (zh σ a).1 ∧ (zh σ a).1 ≤ 19) ∨ (zh σ a).1 = 21) : Wp d mi pc lo (.ref a :: st) σ Q = Wp d mi (pc + 1) lo (.int (Int32.ofNat (zh σ a).2) :: st) σ Q :=
  wp_any hd (by simp only [zins]; rw [if_pos h1]; rfl)
theorem wp_newa {t : ArrayType} {k : Nat} (hd : DC mi pc (.newarray t)) (hk : arK t = k) (h3 : k ≠ 0) (h1 : 0 ≤ i) (h2 : i.toNatClampNeg ≤ 4000) : Wp d mi pc lo (.int i :: st) σ Q = Wp d mi (pc + 2) lo (.ref (zn σ) :: st) (zNew σ (k, i.toNatClampNeg) i.toNatClampNeg) Q := by
  subst hk
  exact wp_any hd (by simp only [zins]; rw [if_pos ⟨h1, h2, h3⟩]; rfl)
theorem wp_anewa {own idx ci b k : Nat} (hd : DC mi pc (.anewarray idx)) (ho : mOw mi = own) (hl : lkq own idx = some (5, ci, b)) (hk : ci = 0 ∧ k = 16 ∨ ci = 1 ∧ k = 17 ∨ ci = 4 ∧ k = 18) (h1 : 0 ≤ i) (h2 : i.toNatClampNeg ≤ 4000) : Wp d mi pc lo (.int i :: st) σ Q = Wp d mi (pc + 3) lo (.ref (zn σ) :: st) (zNew σ (k, i.toNatClampNeg) i.toNatClampNeg) Q := by
  subst ho
  rcases hk with ⟨rfl, rfl⟩ | ⟨rfl, rfl⟩ | ⟨rfl, rfl⟩
  · exact wp_any hd (by simp only [zins, hl]; rw [if_pos ⟨h1, h2, by simp⟩]; rfl)
  · exact wp_any hd (by simp only [zins, hl]; rw [if_pos ⟨h1, h2, by simp⟩]; rfl)
  · exact wp_any hd (by simp only [zins, hl]; rw [if_pos ⟨h1, h2, by simp⟩]; rfl)
theorem wp_new {own idx ci b n : Nat} (hd : DC mi pc (.new idx)) (ho : mOw mi = own) (hl : lkq own idx = some (5, ci, b)) (hn : zN ci = n) : Wp d mi pc lo st σ Q = Wp d mi (pc + 3) lo (.ref (zn σ) :: st) (zNew σ (ci + 1, 0) n) Q := by
  subst ho; subst hn
  exact wp_any hd (by simp only [zins, hl, nx])
end arrays
theorem wp_throw {idx ic E b : Nat} (hd : DC mi pc (.new idx)) (h3 : DC mi (pc + 3) .dup) (h4 : DC mi (pc + 4) (.invokespecial ic)) (h7 : DC mi (pc + 7) .athrow) (ho : mOw mi = 8) (hl : lkq 8 idx = some (6, E, b)) (hi : lkq 8 ic = some (4, E, 0)) (hh : mHn mi = []) (hc : cats st ≤ 8) : Wp d mi pc lo st σ Q = Q (.inr E) (zThrow σ) :=
  wp_ret hd (by
    simp only [zins]
    rw [ho, hl]
    unfold zthrow
    have h3 : decode (mCd mi) (pc + 3) = .ok (.dup, 1) := h3
    have h4 : decode (mCd mi) (pc + 4) = .ok (.invokespecial ic, 3) := h4
    have h7 : decode (mCd mi) (pc + 7) = .ok (.athrow, 1) := h7
    rw [h3, h4, h7]
    exact if_pos ⟨ho, hi, hh, hc⟩)
/-! calls -/
section calls
variable {own idx y n m kd b rp : Nat} {as st0 : List Value} {E : Lo}
theorem ent_of (hy : mKd y = kd ∧ mAr y = n ∧ mMx y = m) (hE : entA as ++ List.replicate (m - (entA as).length) none = E) : ent y as = E := by
  unfold ent
  rw [hy.2.2]
  exact hE
theorem zcall_0 (hy : mKd y = 0 ∧ mAr y = n ∧ mMx y = m) (hn : as.length = n) (hm : (entA as).length ≤ m) (hc : cats st0 ≤ 8) : zcall 0 y (as.reverse ++ st0) σ = some (.inr (.inr (y, as, st0))) := by
  obtain ⟨h1, h2, h3⟩ := hy
  have hl : as.reverse.length = mAr y := by rw [List.length_reverse, hn, h2]
  unfold zcall
  rw [if_pos]
  · rw [if_pos rfl, Nat.add_zero, List.take_left' hl, List.drop_left' hl, List.reverse_reverse]
    rfl
  · rw [if_pos rfl, Nat.add_zero, List.take_left' hl, List.drop_left' hl, List.reverse_reverse]
    exact ⟨h1, by rw [List.length_append, hl]; omega, hc, by rw [h3]; exact hm⟩
theorem zcall_1 {v : Value} (hy : mKd y = 1 ∧ mAr y = n ∧ mMx y = m) (hn : as.length = n) (hm : (entA (v :: as)).length ≤ m) (hc : cats st0 ≤ 8) (hr : rcv σ y v = true) : zcall 1 y (as.reverse ++ v :: st0) σ = some (.inr (.inr (y, v :: as, st0))) := by
  obtain ⟨h1, h2, h3⟩ := hy
  have hl : (as.reverse ++ [v]).length = mAr y + 1 := by rw [List.length_append, List.length_reverse, hn, h2]; rfl
  have e : as.reverse ++ v :: st0 = (as.reverse ++ [v]) ++ st0 := by simp
  have er : (as.reverse ++ [v]).reverse = v :: as := by simp
  unfold zcall
  rw [e, if_neg (by omega : ¬ (1 = 0)), List.take_left' hl, List.drop_left' hl, er, if_pos]
  · simp only [if_true]
    rw [if_pos hr]
  · exact ⟨h1, by rw [List.length_append, hl]; omega, hc, by rw [h3]; exact hm⟩
theorem zcall_2 {a : Nat} (hy : mKd y = 2 ∧ mAr y = n ∧ mMx y = m) (hn : as.length = n) (hm : (entA (.ref a :: as)).length ≤ m) (hc : cats st0 ≤ 8) (hr : (zh σ a).1 ≠ 0) : zcall 2 y (as.reverse ++ .ref a :: st0) σ = some (.inr (.inr (y, .ref a :: as, st0))) := by
  obtain ⟨h1, h2, h3⟩ := hy
  have hl : (as.reverse ++ [Value.ref a]).length = mAr y + 1 := by rw [List.length_append, List.length_reverse, hn, h2]; rfl
  have e : as.reverse ++ .ref a :: st0 = (as.reverse ++ [Value.ref a]) ++ st0 := by simp
  have er : (as.reverse ++ [Value.ref a]).reverse = .ref a :: as := by simp
  have h21 : ¬ (2 = 1) := by omega
  unfold zcall
  rw [e, if_neg (by omega : ¬ (2 = 0)), List.take_left' hl, List.drop_left' hl, er, if_pos]
  · simp only [h21, if_false]
    rw [if_pos hr]
  · exact ⟨h1, by rw [List.length_append, hl]; omega, hc, by rw [h3]; exact hm⟩
theorem wp_static (hd : DC mi pc (.invokestatic idx)) (ho : mOw mi = own) (hl : lkq own idx = some (1, y, b)) (hy : mKd y = 0 ∧ mAr y = n ∧ mMx y = m) (hn : as.length = n) (hE : entA as ++ List.replicate (m - (entA as).length) none = E) (hm : (entA as).length ≤ m) (hr : pc + 3 = rp) (hc : cats st0 ≤ 8) :
    Wp (d + 1) mi pc lo (as.reverse ++ st0) σ Q = Wp d y 0 E [] σ (kn (d + 1) mi pc rp lo st0 Q) := by
  subst ho
  rw [Wp.call hr (show stp mi pc lo (as.reverse ++ st0) σ = some (.inr (.inr (y, as, st0))) by rw [stp_of hd]; simp only [zins, hl]; exact zcall_0 hy hn hm hc), ent_of hy hE]
theorem wp_virt {a : Nat} (hd : DC mi pc (.invokevirtual idx)) (ho : mOw mi = own) (hl : lkq own idx = some (1, y, b)) (hy : mKd y = 1 ∧ mAr y = n ∧ mMx y = m) (hn : as.length = n) (hE : entA (.ref a :: as) ++ List.replicate (m - (entA (.ref a :: as)).length) none = E) (hm : (entA (.ref a :: as)).length ≤ m) (hr : pc + 3 = rp) {o : Nat} (hoy : mOw y = o) (h10 : o < 10) (hc : cats st0 ≤ 8) (hz : zh σ a = (o + 1, 0)) :
    Wp (d + 1) mi pc lo (as.reverse ++ .ref a :: st0) σ Q = Wp d y 0 E [] σ (kn (d + 1) mi pc rp lo st0 Q) := by
  subst ho; subst hoy
  rw [Wp.call hr (show stp mi pc lo (as.reverse ++ .ref a :: st0) σ = some (.inr (.inr (y, .ref a :: as, st0))) by
    rw [stp_of hd]; simp only [zins, hl]; exact zcall_1 hy hn hm hc (by unfold rcv; dsimp only; rw [if_pos h10]; exact decide_eq_true hz)), ent_of hy hE]
theorem wp_virtS {a : Nat} (hd : DC mi pc (.invokevirtual idx)) (ho : mOw mi = own) (hl : lkq own idx = some (1, y, b)) (hy : mKd y = 1 ∧ mAr y = n ∧ mMx y = m) (hn : as.length = n) (hE : entA (.ref a :: as) ++ List.replicate (m - (entA (.ref a :: as)).length) none = E) (hm : (entA (.ref a :: as)).length ≤ m) (hr : pc + 3 = rp) (hoy : mOw y = 11) (hc : cats st0 ≤ 8) (hz : (zh σ a).1 = 20) :
    Wp (d + 1) mi pc lo (as.reverse ++ .ref a :: st0) σ Q = Wp d y 0 E [] σ (kn (d + 1) mi pc rp lo st0 Q) := by
  subst ho
  rw [Wp.call hr (show stp mi pc lo (as.reverse ++ .ref a :: st0) σ = some (.inr (.inr (y, .ref a :: as, st0))) by
    rw [stp_of hd]; simp only [zins, hl]; exact zcall_1 hy hn hm hc (by unfold rcv; dsimp only; rw [hoy, if_neg (by omega)]; exact decide_eq_true ⟨rfl, hz⟩)), ent_of hy hE]
theorem wp_spec {a k : Nat} (hd : DC mi pc (.invokespecial idx)) (ho : mOw mi = own) (hl : lkq own idx = some (k, y, b)) (hk : k = 1 ∨ k = 2) (hy : mKd y = 2 ∧ mAr y = n ∧ mMx y = m) (hn : as.length = n) (hE : entA (.ref a :: as) ++ List.replicate (m - (entA (.ref a :: as)).length) none = E) (hm : (entA (.ref a :: as)).length ≤ m) (hr : pc + 3 = rp) (hc : cats st0 ≤ 8) (hz : (zh σ a).1 ≠ 0) :
    Wp (d + 1) mi pc lo (as.reverse ++ .ref a :: st0) σ Q = Wp d y 0 E [] σ (kn (d + 1) mi pc rp lo st0 Q) := by
  subst ho
  rw [Wp.call hr (show stp mi pc lo (as.reverse ++ .ref a :: st0) σ = some (.inr (.inr (y, .ref a :: as, st0))) by
    rw [stp_of hd]
    rcases hk with rfl | rfl
    · simp only [zins, hl]; exact zcall_2 hy hn hm hc hz
    · simp only [zins, hl]; exact zcall_2 hy hn hm hc hz), ent_of hy hE]
theorem wp_objI {a u v : Nat} (hd : DC mi pc (.invokespecial idx)) (ho : mOw mi = own) (hl : lkq own idx = some (3, u, v)) (hc : cats st0 ≤ 8) (hz : (zh σ a).1 ≠ 0) : Wp d mi pc lo (.ref a :: st0) σ Q = Wp d mi (pc + 3) lo st0 σ Q := by
  subst ho
  exact wp_any hd (by simp only [zins, hl]; rw [if_pos ⟨hz, hc⟩]; rfl)
theorem wp_math {k u v : Nat} {w : Value} {st1 : List Value} (hd : DC mi pc (.invokestatic idx)) (ho : mOw mi = own) (hl : lkq own idx = some (k, u, v)) (hz : zins mi pc lo st1 σ (.invokestatic idx) = nx (pc + 3) lo (w :: st0) σ) : Wp d mi pc lo st1 σ Q = Wp d mi (pc + 3) lo (w :: st0) σ Q :=
  wp_any hd hz
theorem wp_min {x y1 : Int32} {u v : Nat} (hd : DC mi pc (.invokestatic idx)) (ho : mOw mi = own) (hl : lkq own idx = some (12, u, v)) (hc : cats st0 ≤ 8) : Wp d mi pc lo (.int y1 :: .int x :: st0) σ Q = Wp d mi (pc + 3) lo (.int (if y1 < x then y1 else x) :: st0) σ Q := by
  subst ho
  exact wp_any hd (by simp only [zins, hl]; rw [if_pos hc]; rfl)
theorem wp_max {x y1 : Int32} {u v : Nat} (hd : DC mi pc (.invokestatic idx)) (ho : mOw mi = own) (hl : lkq own idx = some (13, u, v)) (hc : cats st0 ≤ 8) : Wp d mi pc lo (.int y1 :: .int x :: st0) σ Q = Wp d mi (pc + 3) lo (.int (if x < y1 then y1 else x) :: st0) σ Q := by
  subst ho
  exact wp_any hd (by simp only [zins, hl]; rw [if_pos hc]; rfl)
theorem wp_abs {x : Int32} {u v : Nat} (hd : DC mi pc (.invokestatic idx)) (ho : mOw mi = own) (hl : lkq own idx = some (14, u, v)) (hc : cats st0 ≤ 8) : Wp d mi pc lo (.int x :: st0) σ Q = Wp d mi (pc + 3) lo (.int (if 0 ≤ x then x else 0 - x) :: st0) σ Q := by
  subst ho
  exact wp_any hd (by simp only [zins, hl]; rw [if_pos hc]; rfl)
theorem wp_fmod {x y1 : Int32} {u v : Nat} (hd : DC mi pc (.invokestatic idx)) (ho : mOw mi = own) (hl : lkq own idx = some (15, u, v)) (hc : cats st0 ≤ 8) (hy : y1 ≠ 0) : Wp d mi pc lo (.int y1 :: .int x :: st0) σ Q = Wp d mi (pc + 3) lo (.int (if (x ^^^ y1) < 0 then (if x - x / y1 * y1 = 0 then x - x / y1 * y1 else x - x / y1 * y1 + y1) else x - x / y1 * y1) :: st0) σ Q := by
  subst ho
  exact wp_any hd (by simp only [zins, hl]; rw [if_pos ⟨hy, hc⟩]; rfl)
theorem wp_minL {x y1 : Int64} {u v : Nat} (hd : DC mi pc (.invokestatic idx)) (ho : mOw mi = own) (hl : lkq own idx = some (16, u, v)) (hc : cats st0 ≤ 8) : Wp d mi pc lo (.long y1 :: .long x :: st0) σ Q = Wp d mi (pc + 3) lo (.long (if y1 < x then y1 else x) :: st0) σ Q := by
  subst ho
  exact wp_any hd (by simp only [zins, hl]; rw [if_pos hc]; rfl)
theorem wp_acpy {u v s d1 : Nat} {sp dp n1 : Int32} (hd : DC mi pc (.invokestatic idx)) (ho : mOw mi = own) (hl : lkq own idx = some (11, u, v)) (h1 : (zh σ s).1 = 11 ∧ (zh σ d1).1 = 11) (h2 : 0 ≤ n1 ∧ 0 ≤ sp ∧ 0 ≤ dp) (h3 : sp.toNatClampNeg + n1.toNatClampNeg ≤ (zh σ s).2) (h4 : dp.toNatClampNeg + n1.toNatClampNeg ≤ (zh σ d1).2) (h5 : s ≠ d1) (hc : cats st0 ≤ 8) :
    Wp d mi pc lo (.int n1 :: .int dp :: .ref d1 :: .int sp :: .ref s :: st0) σ Q = Wp d mi (pc + 3) lo st0 (zCpy σ s d1 sp.toNatClampNeg dp.toNatClampNeg n1.toNatClampNeg) Q := by
  subst ho
  exact wp_any hd (by simp only [zins, hl]; rw [if_pos ⟨h1.1, h1.2, h2.1, h2.2.1, h2.2.2, h3, h4, h5, hc⟩]; rfl)
end calls
/-! returns -/
theorem wp_iret {x : Int32} (hd : DC mi pc .ireturn) (hr : mRt mi = some .int) : Wp d mi pc lo [.int x] σ Q = Q (.inl (some (.int x))) σ :=
  wp_ret hd (by simp only [zins]; rw [hr]; dsimp only; rw [if_pos (Or.inl ⟨rfl, rfl⟩)])
theorem wp_zret {x : Int32} (hd : DC mi pc .ireturn) (hr : mRt mi = some .boolean) (hx : narrow .boolean (.int x) = .int x) : Wp d mi pc lo [.int x] σ Q = Q (.inl (some (.int x))) σ :=
  wp_ret hd (by simp only [zins]; rw [hr]; dsimp only; rw [if_pos (Or.inl ⟨hx, rfl⟩)])
theorem wp_bret {x : Int32} {ty : FieldType} (hd : DC mi pc .ireturn) (hr : mRt mi = some ty) (ht : ty = .byte ∨ ty = .char) (hx : narrow ty (.int x) = .int x) : Wp d mi pc lo [.int x] σ Q = Q (.inl (some (.int x))) σ :=
  wp_ret hd (by simp only [zins]; rw [hr]; dsimp only; rw [if_pos (Or.inr ⟨hx, ht⟩)])
theorem wp_lret {x : Int64} (hd : DC mi pc .lreturn) (hr : mRt mi = some .long) : Wp d mi pc lo [.long x] σ Q = Q (.inl (some (.long x))) σ :=
  wp_ret hd (by simp only [zins]; rw [hr])
theorem wp_fret {x : UInt32} (hd : DC mi pc .freturn) (hr : mRt mi = some .float) : Wp d mi pc lo [.float x] σ Q = Q (.inl (some (.float x))) σ :=
  wp_ret hd (by simp only [zins]; rw [hr])
theorem wp_dret {x : UInt64} (hd : DC mi pc .dreturn) (hr : mRt mi = some .double) : Wp d mi pc lo [.double x] σ Q = Q (.inl (some (.double x))) σ :=
  wp_ret hd (by simp only [zins]; rw [hr])
theorem wp_aret {a : Nat} {nm : String} (hd : DC mi pc .areturn) (hr : mRt mi = some (.object nm)) : Wp d mi pc lo [.ref a] σ Q = Q (.inl (some (.ref a))) σ :=
  wp_ret hd (by simp only [zins]; rw [hr])
theorem wp_anret {nm : String} (hd : DC mi pc .areturn) (hr : mRt mi = some (.object nm)) : Wp d mi pc lo [.null] σ Q = Q (.inl (some .null)) σ :=
  wp_ret hd (by simp only [zins]; rw [hr])
theorem wp_vret (hd : DC mi pc .return_) (hr : mRt mi = none) : Wp d mi pc lo [] σ Q = Q (.inl none) σ :=
  wp_ret hd (by simp only [zins]; rw [hr])
/-! arithmetic with a guard -/
theorem wp_idiv {x y : Int32} (hd : DC mi pc .idiv) (hy : y ≠ 0) : Wp d mi pc lo (.int y :: .int x :: st) σ Q = Wp d mi (pc + 1) lo (.int (x / y) :: st) σ Q :=
  wp_any hd (by simp only [zins]; rw [if_neg hy]; rfl)
theorem wp_irem {x y : Int32} (hd : DC mi pc .irem) (hy : y ≠ 0) : Wp d mi pc lo (.int y :: .int x :: st) σ Q = Wp d mi (pc + 1) lo (.int (x - x / y * y) :: st) σ Q :=
  wp_any hd (by simp only [zins]; rw [if_neg hy]; rfl)
theorem wp_ddiv {x y : UInt64} (hd : DC mi pc .ddiv) (hn : FP.ddiv x y &&& 0x7fffffffffffffff ≤ 0x7ff0000000000000) : Wp d mi pc lo (.double y :: .double x :: st) σ Q = Wp d mi (pc + 1) lo (.double (FP.ddiv x y) :: st) σ Q :=
  wp_any hd (by simp only [zins]; rw [if_pos hn]; rfl)
theorem wp_fdiv {x y : UInt32} (hd : DC mi pc .fdiv) (hn : FP.fdiv x y &&& 0x7fffffff ≤ 0x7f800000) : Wp d mi pc lo (.float y :: .float x :: st) σ Q = Wp d mi (pc + 1) lo (.float (FP.fdiv x y) :: st) σ Q :=
  wp_any hd (by simp only [zins]; rw [if_pos hn]; rfl)
theorem wp_f2d {x : UInt32} (hd : DC mi pc .f2d) (hn : FP.f2d x &&& 0x7fffffffffffffff ≤ 0x7ff0000000000000) : Wp d mi pc lo (.float x :: st) σ Q = Wp d mi (pc + 1) lo (.double (FP.f2d x) :: st) σ Q :=
  wp_any hd (by simp only [zins]; rw [if_pos hn]; rfl)
theorem wp_dup {v : Value} (hd : DC mi pc .dup) (hv : v.category = 1) : Wp d mi pc lo (v :: st) σ Q = Wp d mi (pc + 1) lo (v :: v :: st) σ Q :=
  wp_any hd (by simp only [zins]; rw [if_pos hv]; rfl)
theorem wp_dup2 {v w : Value} (hd : DC mi pc .dup2) (hv : v.category = 1 ∧ w.category = 1) : Wp d mi pc lo (v :: w :: st) σ Q = Wp d mi (pc + 1) lo (v :: w :: v :: w :: st) σ Q :=
  wp_any hd (by simp only [zins]; rw [if_pos hv]; rfl)
theorem wp_pop {v : Value} (hd : DC mi pc .pop) (hv : v.category = 1) : Wp d mi pc lo (v :: st) σ Q = Wp d mi (pc + 1) lo st σ Q :=
  wp_any hd (by simp only [zins]; rw [if_pos hv]; rfl)
end S16
theorem kill_i {x : Int32} : kill (some (.int x)) = some (.int x) := rfl
theorem kill_r {a : Nat} : kill (some (.ref a)) = some (.ref a) := rfl
theorem kill_0 : kill (some .null) = some .null := rfl
theorem kill_n : kill none = none := rfl
theorem kill_l {x : Int64} : kill (some (.long x)) = none := rfl
theorem kill_q {x : Nat} : kill (some (.retAddr x)) = some (.retAddr x) := rfl
theorem zzk_r {a : Nat} : zk (.ref a) = 4 := rfl
theorem zzk_0 : zk .null = 4 := rfl
theorem zzk_q {x : Nat} : zk (.retAddr x) = 4 := rfl
theorem zcat_r {a : Nat} : Value.category (.ref a) = 1 := rfl
theorem zcat_i {x : Int32} : Value.category (.int x) = 1 := rfl
theorem zcat_0 : Value.category .null = 1 := rfl
theorem cats_0 : cats [] = 0 := rfl
theorem cats_i {x : Int32} {st : List Value} : cats (.int x :: st) = 1 + cats st := rfl
theorem cats_r {x : Nat} {st : List Value} : cats (.ref x :: st) = 1 + cats st := rfl
theorem cats_l {x : Int64} {st : List Value} : cats (.long x :: st) = 2 + cats st := rfl
theorem cats_d {x : UInt64} {st : List Value} : cats (.double x :: st) = 2 + cats st := rfl
theorem cats_f {x : UInt32} {st : List Value} : cats (.float x :: st) = 1 + cats st := rfl
theorem rv_s {k : Nat} : rv (k + 1) = .ref k := rfl
theorem rv_0 : rv 0 = .null := rfl
theorem okv_int {x : Int32} : okv .int (.int x) = true := by
  unfold okv
  rw [show narrow .int (.int x) = .int x from rfl]
  simp [fits]
theorem okv_long {x : Int64} : okv .long (.long x) = true := by
  unfold okv
  rw [show narrow .long (.long x) = .long x from rfl]
  simp [fits]
end
section
/-! DECODING by one walk over a method's bytes -/
def DCc (code : ByteArray) (p : Nat) (i : Instr) : Prop := decode code p = .ok (i, ilen i)
theorem u1_at {code : ByteArray} {p : Nat} {b : UInt8} (h : code.data.toList[p]? = some b) : (Reader.u1 : Decoder Nat) code p = .ok (b.toNat, p + 1) := by
  have h0 := List.getElem?_eq_some_iff.mp h
  have hs : p < code.size := by
    have h1 := h0.1
    rw [Array.length_toList] at h1
    exact h1
  have h2 : code[p] = b := by
    have h1 := h0.2
    rw [Array.getElem_toList] at h1
    exact h1
  have e : (Reader.u1 : Decoder Nat) code p = (if h : p < code.size then (do set (p + 1); pure code[p].toNat : Decoder Nat) else throw (HasTruncated.truncated p)) code p := rfl
  rw [e, dif_pos hs, h2]
  rfl
/-- bytes at a place -/
def b3 (code : ByteArray) (p b0 b1 b2 : Nat) (k : Nat) : Prop :=
  (Reader.u1 : Decoder Nat) code p = .ok (b0, p + 1) ∧ (2 ≤ k → (Reader.u1 : Decoder Nat) code (p + 1) = .ok (b1, p + 2)) ∧ (3 ≤ k → (Reader.u1 : Decoder Nat) code (p + 2) = .ok (b2, p + 3))
theorem ex_bind {ε α β : Type} {x : Except ε α} {a : α} {f : α → Except ε β} (h : x = .ok a) : (x >>= f) = f a := by subst h; rfl
theorem rd_bind {α β : Type} {x : Decoder α} {f : α → Decoder β} {code : ByteArray} {p q : Nat} {a : α} (h : x code p = .ok (a, q)) : (x >>= f) code p = f a code q := by
  show (x code p >>= fun r => f r.1 code r.2) = _
  rw [h]
  rfl
theorem dec_of {code : ByteArray} {p q n : Nat} {i : Instr} (h : Decoder.instr p code p = .ok (i, q)) (hn : q - p = n) : decode code p = .ok (i, n) := by
  show (Decoder.instr p code p >>= fun r => pure (r.1, r.2 - p)) = _
  rw [h]
  subst hn
  rfl
theorem u2_at {code : ByteArray} {p b1 b2 : Nat} (h1 : (Reader.u1 : Decoder Nat) code p = .ok (b1, p + 1)) (h2 : (Reader.u1 : Decoder Nat) code (p + 1) = .ok (b2, p + 2)) : (Reader.u2 : Decoder Nat) code p = .ok (b1 * 256 + b2, p + 2) := by
  unfold Reader.u2
  rw [rd_bind h1, rd_bind h2]
  rfl
theorem s2_at {code : ByteArray} {p b1 b2 : Nat} (h1 : (Reader.u1 : Decoder Nat) code p = .ok (b1, p + 1)) (h2 : (Reader.u1 : Decoder Nat) code (p + 1) = .ok (b2, p + 2)) : (Reader.s2 : Decoder Int) code p = .ok (Reader.signed 16 (b1 * 256 + b2), p + 2) := by
  show (Reader.u2 code p >>= fun r => pure (Reader.signed 16 r.1, r.2)) = _
  rw [u2_at h1 h2]
  rfl
theorem s1_at {code : ByteArray} {p b1 : Nat} (h1 : (Reader.u1 : Decoder Nat) code p = .ok (b1, p + 1)) : (Reader.s1 : Decoder Int) code p = .ok (Reader.signed 8 b1, p + 1) := by
  show (Reader.u1 code p >>= fun r => pure (Reader.signed 8 r.1, r.2)) = _
  rw [h1]
  rfl
set_option maxRecDepth 4000 in
theorem dk1 {code : ByteArray} {p b1 b2 : Nat} (hb : b3 code p 1 b1 b2 1) : DCc code p (.aconst_null) := by
  obtain ⟨h0, h1, h2⟩ := hb
  refine dec_of (q := p + 1) ?_ (by rw [Nat.add_sub_cancel_left]; rfl)
  exact (rd_bind (x := Reader.u1) h0).trans rfl
set_option maxRecDepth 4000 in
theorem dk2 {code : ByteArray} {p b1 b2 : Nat} (hb : b3 code p 2 b1 b2 1) : DCc code p (.iconst (-1)) := by
  obtain ⟨h0, h1, h2⟩ := hb
  refine dec_of (q := p + 1) ?_ (by rw [Nat.add_sub_cancel_left]; rfl)
  exact (rd_bind (x := Reader.u1) h0).trans rfl
set_option maxRecDepth 4000 in
theorem dk3 {code : ByteArray} {p b1 b2 : Nat} (hb : b3 code p 3 b1 b2 1) : DCc code p (.iconst 0) := by
  obtain ⟨h0, h1, h2⟩ := hb
  refine dec_of (q := p + 1) ?_ (by rw [Nat.add_sub_cancel_left]; rfl)
  exact (rd_bind (x := Reader.u1) h0).trans rfl
set_option maxRecDepth 4000 in
theorem dk4 {code : ByteArray} {p b1 b2 : Nat} (hb : b3 code p 4 b1 b2 1) : DCc code p (.iconst 1) := by
  obtain ⟨h0, h1, h2⟩ := hb
  refine dec_of (q := p + 1) ?_ (by rw [Nat.add_sub_cancel_left]; rfl)
  exact (rd_bind (x := Reader.u1) h0).trans rfl
set_option maxRecDepth 4000 in
theorem dk5 {code : ByteArray} {p b1 b2 : Nat} (hb : b3 code p 5 b1 b2 1) : DCc code p (.iconst 2) := by
  obtain ⟨h0, h1, h2⟩ := hb
  refine dec_of (q := p + 1) ?_ (by rw [Nat.add_sub_cancel_left]; rfl)
  exact (rd_bind (x := Reader.u1) h0).trans rfl
set_option maxRecDepth 4000 in
theorem dk6 {code : ByteArray} {p b1 b2 : Nat} (hb : b3 code p 6 b1 b2 1) : DCc code p (.iconst 3) := by
  obtain ⟨h0, h1, h2⟩ := hb
  refine dec_of (q := p + 1) ?_ (by rw [Nat.add_sub_cancel_left]; rfl)
  exact (rd_bind (x := Reader.u1) h0).trans rfl
set_option maxRecDepth 4000 in
theorem dk7 {code : ByteArray} {p b1 b2 : Nat} (hb : b3 code p 7 b1 b2 1) : DCc code p (.iconst 4) := by
  obtain ⟨h0, h1, h2⟩ := hb
  refine dec_of (q := p + 1) ?_ (by rw [Nat.add_sub_cancel_left]; rfl)
  exact (rd_bind (x := Reader.u1) h0).trans rfl
set_option maxRecDepth 4000 in
theorem dk8 {code : ByteArray} {p b1 b2 : Nat} (hb : b3 code p 8 b1 b2 1) : DCc code p (.iconst 5) := by
  obtain ⟨h0, h1, h2⟩ := hb
  refine dec_of (q := p + 1) ?_ (by rw [Nat.add_sub_cancel_left]; rfl)
  exact (rd_bind (x := Reader.u1) h0).trans rfl
set_option maxRecDepth 4000 in
theorem dk9 {code : ByteArray} {p b1 b2 : Nat} (hb : b3 code p 9 b1 b2 1) : DCc code p (.lconst 0) := by
  obtain ⟨h0, h1, h2⟩ := hb
  refine dec_of (q := p + 1) ?_ (by rw [Nat.add_sub_cancel_left]; rfl)
  exact (rd_bind (x := Reader.u1) h0).trans rfl
set_option maxRecDepth 4000 in
theorem dk10 {code : ByteArray} {p b1 b2 : Nat} (hb : b3 code p 10 b1 b2 1) : DCc code p (.lconst 1) := by
  obtain ⟨h0, h1, h2⟩ := hb
  refine dec_of (q := p + 1) ?_ (by rw [Nat.add_sub_cancel_left]; rfl)
  exact (rd_bind (x := Reader.u1) h0).trans rfl
set_option maxRecDepth 4000 in
theorem dk11 {code : ByteArray} {p b1 b2 : Nat} (hb : b3 code p 11 b1 b2 1) : DCc code p (.fconst 0) := by
  obtain ⟨h0, h1, h2⟩ := hb
  refine dec_of (q := p + 1) ?_ (by rw [Nat.add_sub_cancel_left]; rfl)
  exact (rd_bind (x := Reader.u1) h0).trans rfl
set_option maxRecDepth 4000 in
theorem dk12 {code : ByteArray} {p b1 b2 : Nat} (hb : b3 code p 12 b1 b2 1) : DCc code p (.fconst 1) := by
  obtain ⟨h0, h1, h2⟩ := hb
  refine dec_of (q := p + 1) ?_ (by rw [Nat.add_sub_cancel_left]; rfl)
  exact (rd_bind (x := Reader.u1) h0).trans rfl
set_option maxRecDepth 4000 in
theorem dk13 {code : ByteArray} {p b1 b2 : Nat} (hb : b3 code p 13 b1 b2 1) : DCc code p (.fconst 2) := by
  obtain ⟨h0, h1, h2⟩ := hb
  refine dec_of (q := p + 1) ?_ (by rw [Nat.add_sub_cancel_left]; rfl)
  exact (rd_bind (x := Reader.u1) h0).trans rfl
set_option maxRecDepth 4000 in
theorem dk14 {code : ByteArray} {p b1 b2 : Nat} (hb : b3 code p 14 b1 b2 1) : DCc code p (.dconst 0) := by
  obtain ⟨h0, h1, h2⟩ := hb
  refine dec_of (q := p + 1) ?_ (by rw [Nat.add_sub_cancel_left]; rfl)
  exact (rd_bind (x := Reader.u1) h0).trans rfl
set_option maxRecDepth 4000 in
theorem dk15 {code : ByteArray} {p b1 b2 : Nat} (hb : b3 code p 15 b1 b2 1) : DCc code p (.dconst 1) := by
  obtain ⟨h0, h1, h2⟩ := hb
  refine dec_of (q := p + 1) ?_ (by rw [Nat.add_sub_cancel_left]; rfl)
  exact (rd_bind (x := Reader.u1) h0).trans rfl
set_option maxRecDepth 4000 in
theorem dk16 {code : ByteArray} {p b1 b2 : Nat} (hb : b3 code p 16 b1 b2 2) : DCc code p (.bipush (Reader.signed 8 b1)) := by
  obtain ⟨h0, h1, h2⟩ := hb
  refine dec_of (q := p + 2) ?_ (by rw [Nat.add_sub_cancel_left]; rfl)
  refine (rd_bind (x := Reader.u1) h0).trans ?_
  exact rd_bind (s1_at (h1 (by decide)))
set_option maxRecDepth 4000 in
theorem dk17 {code : ByteArray} {p b1 b2 : Nat} (hb : b3 code p 17 b1 b2 3) : DCc code p (.sipush (Reader.signed 16 (b1 * 256 + b2))) := by
  obtain ⟨h0, h1, h2⟩ := hb
  refine dec_of (q := p + 3) ?_ (by rw [Nat.add_sub_cancel_left]; rfl)
  refine (rd_bind (x := Reader.u1) h0).trans ?_
  exact rd_bind (s2_at (h1 (by decide)) (h2 (by decide)))
set_option maxRecDepth 4000 in
theorem dk18 {code : ByteArray} {p b1 b2 : Nat} (hb : b3 code p 18 b1 b2 2) : DCc code p (.ldc b1) := by
  obtain ⟨h0, h1, h2⟩ := hb
  refine dec_of (q := p + 2) ?_ (by rw [Nat.add_sub_cancel_left]; rfl)
  refine (rd_bind (x := Reader.u1) h0).trans ?_
  exact rd_bind (h1 (by decide))
set_option maxRecDepth 4000 in
theorem dk19 {code : ByteArray} {p b1 b2 : Nat} (hb : b3 code p 19 b1 b2 3) : DCc code p (.ldc_w (b1 * 256 + b2)) := by
  obtain ⟨h0, h1, h2⟩ := hb
  refine dec_of (q := p + 3) ?_ (by rw [Nat.add_sub_cancel_left]; rfl)
  refine (rd_bind (x := Reader.u1) h0).trans ?_
  exact rd_bind (u2_at (h1 (by decide)) (h2 (by decide)))
set_option maxRecDepth 4000 in
theorem dk20 {code : ByteArray} {p b1 b2 : Nat} (hb : b3 code p 20 b1 b2 3) : DCc code p (.ldc2_w (b1 * 256 + b2)) := by
  obtain ⟨h0, h1, h2⟩ := hb
  refine dec_of (q := p + 3) ?_ (by rw [Nat.add_sub_cancel_left]; rfl)
  refine (rd_bind (x := Reader.u1) h0).trans ?_
  exact rd_bind (u2_at (h1 (by decide)) (h2 (by decide)))
set_option maxRecDepth 4000 in
theorem dk21 {code : ByteArray} {p b1 b2 : Nat} (hb : b3 code p 21 b1 b2 2) : DCc code p (.iload b1) := by
  obtain ⟨h0, h1, h2⟩ := hb
  refine dec_of (q := p + 2) ?_ (by rw [Nat.add_sub_cancel_left]; rfl)
  refine (rd_bind (x := Reader.u1) h0).trans ?_
  exact rd_bind (h1 (by decide))
set_option maxRecDepth 4000 in
theorem dk22 {code : ByteArray} {p b1 b2 : Nat} (hb : b3 code p 22 b1 b2 2) : DCc code p (.lload b1) := by
  obtain ⟨h0, h1, h2⟩ := hb
  refine dec_of (q := p + 2) ?_ (by rw [Nat.add_sub_cancel_left]; rfl)
  refine (rd_bind (x := Reader.u1) h0).trans ?_
  exact rd_bind (h1 (by decide))
set_option maxRecDepth 4000 in
theorem dk23 {code : ByteArray} {p b1 b2 : Nat} (hb : b3 code p 23 b1 b2 2) : DCc code p (.fload b1) := by
  obtain ⟨h0, h1, h2⟩ := hb
  refine dec_of (q := p + 2) ?_ (by rw [Nat.add_sub_cancel_left]; rfl)
  refine (rd_bind (x := Reader.u1) h0).trans ?_
  exact rd_bind (h1 (by decide))
set_option maxRecDepth 4000 in
theorem dk24 {code : ByteArray} {p b1 b2 : Nat} (hb : b3 code p 24 b1 b2 2) : DCc code p (.dload b1) := by
  obtain ⟨h0, h1, h2⟩ := hb
  refine dec_of (q := p + 2) ?_ (by rw [Nat.add_sub_cancel_left]; rfl)
  refine (rd_bind (x := Reader.u1) h0).trans ?_
  exact rd_bind (h1 (by decide))
set_option maxRecDepth 4000 in
theorem dk25 {code : ByteArray} {p b1 b2 : Nat} (hb : b3 code p 25 b1 b2 2) : DCc code p (.aload b1) := by
  obtain ⟨h0, h1, h2⟩ := hb
  refine dec_of (q := p + 2) ?_ (by rw [Nat.add_sub_cancel_left]; rfl)
  refine (rd_bind (x := Reader.u1) h0).trans ?_
  exact rd_bind (h1 (by decide))
set_option maxRecDepth 4000 in
theorem dk26 {code : ByteArray} {p b1 b2 : Nat} (hb : b3 code p 26 b1 b2 1) : DCc code p (.iload_n 0) := by
  obtain ⟨h0, h1, h2⟩ := hb
  refine dec_of (q := p + 1) ?_ (by rw [Nat.add_sub_cancel_left]; rfl)
  exact (rd_bind (x := Reader.u1) h0).trans rfl
set_option maxRecDepth 4000 in
theorem dk27 {code : ByteArray} {p b1 b2 : Nat} (hb : b3 code p 27 b1 b2 1) : DCc code p (.iload_n 1) := by
  obtain ⟨h0, h1, h2⟩ := hb
  refine dec_of (q := p + 1) ?_ (by rw [Nat.add_sub_cancel_left]; rfl)
  exact (rd_bind (x := Reader.u1) h0).trans rfl
set_option maxRecDepth 4000 in
theorem dk28 {code : ByteArray} {p b1 b2 : Nat} (hb : b3 code p 28 b1 b2 1) : DCc code p (.iload_n 2) := by
  obtain ⟨h0, h1, h2⟩ := hb
  refine dec_of (q := p + 1) ?_ (by rw [Nat.add_sub_cancel_left]; rfl)
  exact (rd_bind (x := Reader.u1) h0).trans rfl
set_option maxRecDepth 4000 in
theorem dk29 {code : ByteArray} {p b1 b2 : Nat} (hb : b3 code p 29 b1 b2 1) : DCc code p (.iload_n 3) := by
  obtain ⟨h0, h1, h2⟩ := hb
  refine dec_of (q := p + 1) ?_ (by rw [Nat.add_sub_cancel_left]; rfl)
  exact (rd_bind (x := Reader.u1) h0).trans rfl
set_option maxRecDepth 4000 in
theorem dk30 {code : ByteArray} {p b1 b2 : Nat} (hb : b3 code p 30 b1 b2 1) : DCc code p (.lload_n 0) := by
  obtain ⟨h0, h1, h2⟩ := hb
  refine dec_of (q := p + 1) ?_ (by rw [Nat.add_sub_cancel_left]; rfl)
  exact (rd_bind (x := Reader.u1) h0).trans rfl
set_option maxRecDepth 4000 in
theorem dk31 {code : ByteArray} {p b1 b2 : Nat} (hb : b3 code p 31 b1 b2 1) : DCc code p (.lload_n 1) := by
  obtain ⟨h0, h1, h2⟩ := hb
  refine dec_of (q := p + 1) ?_ (by rw [Nat.add_sub_cancel_left]; rfl)
  exact (rd_bind (x := Reader.u1) h0).trans rfl
set_option maxRecDepth 4000 in
theorem dk32 {code : ByteArray} {p b1 b2 : Nat} (hb : b3 code p 32 b1 b2 1) : DCc code p (.lload_n 2) := by
  obtain ⟨h0, h1, h2⟩ := hb
  refine dec_of (q := p + 1) ?_ (by rw [Nat.add_sub_cancel_left]; rfl)
  exact (rd_bind (x := Reader.u1) h0).trans rfl
set_option maxRecDepth 4000 in
theorem dk33 {code : ByteArray} {p b1 b2 : Nat} (hb : b3 code p 33 b1 b2 1) : DCc code p (.lload_n 3) := by
  obtain ⟨h0, h1, h2⟩ := hb
  refine dec_of (q := p + 1) ?_ (by rw [Nat.add_sub_cancel_left]; rfl)
  exact (rd_bind (x := Reader.u1) h0).trans rfl
set_option maxRecDepth 4000 in
theorem dk42 {code : ByteArray} {p b1 b2 : Nat} (hb : b3 code p 42 b1 b2 1) : DCc code p (.aload_n 0) := by
  obtain ⟨h0, h1, h2⟩ := hb
  refine dec_of (q := p + 1) ?_ (by rw [Nat.add_sub_cancel_left]; rfl)
  exact (rd_bind (x := Reader.u1) h0).trans rfl
set_option maxRecDepth 4000 in
theorem dk43 {code : ByteArray} {p b1 b2 : Nat} (hb : b3 code p 43 b1 b2 1) : DCc code p (.aload_n 1) := by
  obtain ⟨h0, h1, h2⟩ := hb
  refine dec_of (q := p + 1) ?_ (by rw [Nat.add_sub_cancel_left]; rfl)
  exact (rd_bind (x := Reader.u1) h0).trans rfl
set_option maxRecDepth 4000 in
theorem dk44 {code : ByteArray} {p b1 b2 : Nat} (hb : b3 code p 44 b1 b2 1) : DCc code p (.aload_n 2) := by
  obtain ⟨h0, h1, h2⟩ := hb
  refine dec_of (q := p + 1) ?_ (by rw [Nat.add_sub_cancel_left]; rfl)
  exact (rd_bind (x := Reader.u1) h0).trans rfl
set_option maxRecDepth 4000 in
theorem dk45 {code : ByteArray} {p b1 b2 : Nat} (hb : b3 code p 45 b1 b2 1) : DCc code p (.aload_n 3) := by
  obtain ⟨h0, h1, h2⟩ := hb
  refine dec_of (q := p + 1) ?_ (by rw [Nat.add_sub_cancel_left]; rfl)
  exact (rd_bind (x := Reader.u1) h0).trans rfl
set_option maxRecDepth 4000 in
theorem dk46 {code : ByteArray} {p b1 b2 : Nat} (hb : b3 code p 46 b1 b2 1) : DCc code p (.iaload) := by
  obtain ⟨h0, h1, h2⟩ := hb
  refine dec_of (q := p + 1) ?_ (by rw [Nat.add_sub_cancel_left]; rfl)
  exact (rd_bind (x := Reader.u1) h0).trans rfl
set_option maxRecDepth 4000 in
theorem dk47 {code : ByteArray} {p b1 b2 : Nat} (hb : b3 code p 47 b1 b2 1) : DCc code p (.laload) := by
  obtain ⟨h0, h1, h2⟩ := hb
  refine dec_of (q := p + 1) ?_ (by rw [Nat.add_sub_cancel_left]; rfl)
  exact (rd_bind (x := Reader.u1) h0).trans rfl
set_option maxRecDepth 4000 in
theorem dk49 {code : ByteArray} {p b1 b2 : Nat} (hb : b3 code p 49 b1 b2 1) : DCc code p (.daload) := by
  obtain ⟨h0, h1, h2⟩ := hb
  refine dec_of (q := p + 1) ?_ (by rw [Nat.add_sub_cancel_left]; rfl)
  exact (rd_bind (x := Reader.u1) h0).trans rfl
set_option maxRecDepth 4000 in
theorem dk50 {code : ByteArray} {p b1 b2 : Nat} (hb : b3 code p 50 b1 b2 1) : DCc code p (.aaload) := by
  obtain ⟨h0, h1, h2⟩ := hb
  refine dec_of (q := p + 1) ?_ (by rw [Nat.add_sub_cancel_left]; rfl)
  exact (rd_bind (x := Reader.u1) h0).trans rfl
set_option maxRecDepth 4000 in
theorem dk51 {code : ByteArray} {p b1 b2 : Nat} (hb : b3 code p 51 b1 b2 1) : DCc code p (.baload) := by
  obtain ⟨h0, h1, h2⟩ := hb
  refine dec_of (q := p + 1) ?_ (by rw [Nat.add_sub_cancel_left]; rfl)
  exact (rd_bind (x := Reader.u1) h0).trans rfl
set_option maxRecDepth 4000 in
theorem dk54 {code : ByteArray} {p b1 b2 : Nat} (hb : b3 code p 54 b1 b2 2) : DCc code p (.istore b1) := by
  obtain ⟨h0, h1, h2⟩ := hb
  refine dec_of (q := p + 2) ?_ (by rw [Nat.add_sub_cancel_left]; rfl)
  refine (rd_bind (x := Reader.u1) h0).trans ?_
  exact rd_bind (h1 (by decide))
set_option maxRecDepth 4000 in
theorem dk55 {code : ByteArray} {p b1 b2 : Nat} (hb : b3 code p 55 b1 b2 2) : DCc code p (.lstore b1) := by
  obtain ⟨h0, h1, h2⟩ := hb
  refine dec_of (q := p + 2) ?_ (by rw [Nat.add_sub_cancel_left]; rfl)
  refine (rd_bind (x := Reader.u1) h0).trans ?_
  exact rd_bind (h1 (by decide))
set_option maxRecDepth 4000 in
theorem dk56 {code : ByteArray} {p b1 b2 : Nat} (hb : b3 code p 56 b1 b2 2) : DCc code p (.fstore b1) := by
  obtain ⟨h0, h1, h2⟩ := hb
  refine dec_of (q := p + 2) ?_ (by rw [Nat.add_sub_cancel_left]; rfl)
  refine (rd_bind (x := Reader.u1) h0).trans ?_
  exact rd_bind (h1 (by decide))
set_option maxRecDepth 4000 in
theorem dk57 {code : ByteArray} {p b1 b2 : Nat} (hb : b3 code p 57 b1 b2 2) : DCc code p (.dstore b1) := by
  obtain ⟨h0, h1, h2⟩ := hb
  refine dec_of (q := p + 2) ?_ (by rw [Nat.add_sub_cancel_left]; rfl)
  refine (rd_bind (x := Reader.u1) h0).trans ?_
  exact rd_bind (h1 (by decide))
set_option maxRecDepth 4000 in
theorem dk58 {code : ByteArray} {p b1 b2 : Nat} (hb : b3 code p 58 b1 b2 2) : DCc code p (.astore b1) := by
  obtain ⟨h0, h1, h2⟩ := hb
  refine dec_of (q := p + 2) ?_ (by rw [Nat.add_sub_cancel_left]; rfl)
  refine (rd_bind (x := Reader.u1) h0).trans ?_
  exact rd_bind (h1 (by decide))
set_option maxRecDepth 4000 in
theorem dk59 {code : ByteArray} {p b1 b2 : Nat} (hb : b3 code p 59 b1 b2 1) : DCc code p (.istore_n 0) := by
  obtain ⟨h0, h1, h2⟩ := hb
  refine dec_of (q := p + 1) ?_ (by rw [Nat.add_sub_cancel_left]; rfl)
  exact (rd_bind (x := Reader.u1) h0).trans rfl
set_option maxRecDepth 4000 in
theorem dk60 {code : ByteArray} {p b1 b2 : Nat} (hb : b3 code p 60 b1 b2 1) : DCc code p (.istore_n 1) := by
  obtain ⟨h0, h1, h2⟩ := hb
  refine dec_of (q := p + 1) ?_ (by rw [Nat.add_sub_cancel_left]; rfl)
  exact (rd_bind (x := Reader.u1) h0).trans rfl
set_option maxRecDepth 4000 in
theorem dk61 {code : ByteArray} {p b1 b2 : Nat} (hb : b3 code p 61 b1 b2 1) : DCc code p (.istore_n 2) := by
  obtain ⟨h0, h1, h2⟩ := hb
  refine dec_of (q := p + 1) ?_ (by rw [Nat.add_sub_cancel_left]; rfl)
  exact (rd_bind (x := Reader.u1) h0).trans rfl
set_option maxRecDepth 4000 in
theorem dk62 {code : ByteArray} {p b1 b2 : Nat} (hb : b3 code p 62 b1 b2 1) : DCc code p (.istore_n 3) := by
  obtain ⟨h0, h1, h2⟩ := hb
  refine dec_of (q := p + 1) ?_ (by rw [Nat.add_sub_cancel_left]; rfl)
  exact (rd_bind (x := Reader.u1) h0).trans rfl
set_option maxRecDepth 4000 in
theorem dk63 {code : ByteArray} {p b1 b2 : Nat} (hb : b3 code p 63 b1 b2 1) : DCc code p (.lstore_n 0) := by
  obtain ⟨h0, h1, h2⟩ := hb
  refine dec_of (q := p + 1) ?_ (by rw [Nat.add_sub_cancel_left]; rfl)
  exact (rd_bind (x := Reader.u1) h0).trans rfl
set_option maxRecDepth 4000 in
theorem dk64 {code : ByteArray} {p b1 b2 : Nat} (hb : b3 code p 64 b1 b2 1) : DCc code p (.lstore_n 1) := by
  obtain ⟨h0, h1, h2⟩ := hb
  refine dec_of (q := p + 1) ?_ (by rw [Nat.add_sub_cancel_left]; rfl)
  exact (rd_bind (x := Reader.u1) h0).trans rfl
set_option maxRecDepth 4000 in
theorem dk65 {code : ByteArray} {p b1 b2 : Nat} (hb : b3 code p 65 b1 b2 1) : DCc code p (.lstore_n 2) := by
  obtain ⟨h0, h1, h2⟩ := hb
  refine dec_of (q := p + 1) ?_ (by rw [Nat.add_sub_cancel_left]; rfl)
  exact (rd_bind (x := Reader.u1) h0).trans rfl
set_option maxRecDepth 4000 in
theorem dk66 {code : ByteArray} {p b1 b2 : Nat} (hb : b3 code p 66 b1 b2 1) : DCc code p (.lstore_n 3) := by
  obtain ⟨h0, h1, h2⟩ := hb
  refine dec_of (q := p + 1) ?_ (by rw [Nat.add_sub_cancel_left]; rfl)
  exact (rd_bind (x := Reader.u1) h0).trans rfl
set_option maxRecDepth 4000 in
theorem dk75 {code : ByteArray} {p b1 b2 : Nat} (hb : b3 code p 75 b1 b2 1) : DCc code p (.astore_n 0) := by
  obtain ⟨h0, h1, h2⟩ := hb
  refine dec_of (q := p + 1) ?_ (by rw [Nat.add_sub_cancel_left]; rfl)
  exact (rd_bind (x := Reader.u1) h0).trans rfl
set_option maxRecDepth 4000 in
theorem dk76 {code : ByteArray} {p b1 b2 : Nat} (hb : b3 code p 76 b1 b2 1) : DCc code p (.astore_n 1) := by
  obtain ⟨h0, h1, h2⟩ := hb
  refine dec_of (q := p + 1) ?_ (by rw [Nat.add_sub_cancel_left]; rfl)
  exact (rd_bind (x := Reader.u1) h0).trans rfl
set_option maxRecDepth 4000 in
theorem dk77 {code : ByteArray} {p b1 b2 : Nat} (hb : b3 code p 77 b1 b2 1) : DCc code p (.astore_n 2) := by
  obtain ⟨h0, h1, h2⟩ := hb
  refine dec_of (q := p + 1) ?_ (by rw [Nat.add_sub_cancel_left]; rfl)
  exact (rd_bind (x := Reader.u1) h0).trans rfl
set_option maxRecDepth 4000 in
theorem dk78 {code : ByteArray} {p b1 b2 : Nat} (hb : b3 code p 78 b1 b2 1) : DCc code p (.astore_n 3) := by
  obtain ⟨h0, h1, h2⟩ := hb
  refine dec_of (q := p + 1) ?_ (by rw [Nat.add_sub_cancel_left]; rfl)
  exact (rd_bind (x := Reader.u1) h0).trans rfl
set_option maxRecDepth 4000 in
theorem dk79 {code : ByteArray} {p b1 b2 : Nat} (hb : b3 code p 79 b1 b2 1) : DCc code p (.iastore) := by
  obtain ⟨h0, h1, h2⟩ := hb
  refine dec_of (q := p + 1) ?_ (by rw [Nat.add_sub_cancel_left]; rfl)
  exact (rd_bind (x := Reader.u1) h0).trans rfl
set_option maxRecDepth 4000 in
theorem dk80 {code : ByteArray} {p b1 b2 : Nat} (hb : b3 code p 80 b1 b2 1) : DCc code p (.lastore) := by
  obtain ⟨h0, h1, h2⟩ := hb
  refine dec_of (q := p + 1) ?_ (by rw [Nat.add_sub_cancel_left]; rfl)
  exact (rd_bind (x := Reader.u1) h0).trans rfl
set_option maxRecDepth 4000 in
theorem dk82 {code : ByteArray} {p b1 b2 : Nat} (hb : b3 code p 82 b1 b2 1) : DCc code p (.dastore) := by
  obtain ⟨h0, h1, h2⟩ := hb
  refine dec_of (q := p + 1) ?_ (by rw [Nat.add_sub_cancel_left]; rfl)
  exact (rd_bind (x := Reader.u1) h0).trans rfl
set_option maxRecDepth 4000 in
theorem dk83 {code : ByteArray} {p b1 b2 : Nat} (hb : b3 code p 83 b1 b2 1) : DCc code p (.aastore) := by
  obtain ⟨h0, h1, h2⟩ := hb
  refine dec_of (q := p + 1) ?_ (by rw [Nat.add_sub_cancel_left]; rfl)
  exact (rd_bind (x := Reader.u1) h0).trans rfl
set_option maxRecDepth 4000 in
theorem dk84 {code : ByteArray} {p b1 b2 : Nat} (hb : b3 code p 84 b1 b2 1) : DCc code p (.bastore) := by
  obtain ⟨h0, h1, h2⟩ := hb
  refine dec_of (q := p + 1) ?_ (by rw [Nat.add_sub_cancel_left]; rfl)
  exact (rd_bind (x := Reader.u1) h0).trans rfl
set_option maxRecDepth 4000 in
theorem dk87 {code : ByteArray} {p b1 b2 : Nat} (hb : b3 code p 87 b1 b2 1) : DCc code p (.pop) := by
  obtain ⟨h0, h1, h2⟩ := hb
  refine dec_of (q := p + 1) ?_ (by rw [Nat.add_sub_cancel_left]; rfl)
  exact (rd_bind (x := Reader.u1) h0).trans rfl
set_option maxRecDepth 4000 in
theorem dk89 {code : ByteArray} {p b1 b2 : Nat} (hb : b3 code p 89 b1 b2 1) : DCc code p (.dup) := by
  obtain ⟨h0, h1, h2⟩ := hb
  refine dec_of (q := p + 1) ?_ (by rw [Nat.add_sub_cancel_left]; rfl)
  exact (rd_bind (x := Reader.u1) h0).trans rfl
set_option maxRecDepth 4000 in
theorem dk92 {code : ByteArray} {p b1 b2 : Nat} (hb : b3 code p 92 b1 b2 1) : DCc code p (.dup2) := by
  obtain ⟨h0, h1, h2⟩ := hb
  refine dec_of (q := p + 1) ?_ (by rw [Nat.add_sub_cancel_left]; rfl)
  exact (rd_bind (x := Reader.u1) h0).trans rfl
set_option maxRecDepth 4000 in
theorem dk96 {code : ByteArray} {p b1 b2 : Nat} (hb : b3 code p 96 b1 b2 1) : DCc code p (.iadd) := by
  obtain ⟨h0, h1, h2⟩ := hb
  refine dec_of (q := p + 1) ?_ (by rw [Nat.add_sub_cancel_left]; rfl)
  exact (rd_bind (x := Reader.u1) h0).trans rfl
set_option maxRecDepth 4000 in
theorem dk97 {code : ByteArray} {p b1 b2 : Nat} (hb : b3 code p 97 b1 b2 1) : DCc code p (.ladd) := by
  obtain ⟨h0, h1, h2⟩ := hb
  refine dec_of (q := p + 1) ?_ (by rw [Nat.add_sub_cancel_left]; rfl)
  exact (rd_bind (x := Reader.u1) h0).trans rfl
set_option maxRecDepth 4000 in
theorem dk100 {code : ByteArray} {p b1 b2 : Nat} (hb : b3 code p 100 b1 b2 1) : DCc code p (.isub) := by
  obtain ⟨h0, h1, h2⟩ := hb
  refine dec_of (q := p + 1) ?_ (by rw [Nat.add_sub_cancel_left]; rfl)
  exact (rd_bind (x := Reader.u1) h0).trans rfl
set_option maxRecDepth 4000 in
theorem dk101 {code : ByteArray} {p b1 b2 : Nat} (hb : b3 code p 101 b1 b2 1) : DCc code p (.lsub) := by
  obtain ⟨h0, h1, h2⟩ := hb
  refine dec_of (q := p + 1) ?_ (by rw [Nat.add_sub_cancel_left]; rfl)
  exact (rd_bind (x := Reader.u1) h0).trans rfl
set_option maxRecDepth 4000 in
theorem dk104 {code : ByteArray} {p b1 b2 : Nat} (hb : b3 code p 104 b1 b2 1) : DCc code p (.imul) := by
  obtain ⟨h0, h1, h2⟩ := hb
  refine dec_of (q := p + 1) ?_ (by rw [Nat.add_sub_cancel_left]; rfl)
  exact (rd_bind (x := Reader.u1) h0).trans rfl
set_option maxRecDepth 4000 in
theorem dk108 {code : ByteArray} {p b1 b2 : Nat} (hb : b3 code p 108 b1 b2 1) : DCc code p (.idiv) := by
  obtain ⟨h0, h1, h2⟩ := hb
  refine dec_of (q := p + 1) ?_ (by rw [Nat.add_sub_cancel_left]; rfl)
  exact (rd_bind (x := Reader.u1) h0).trans rfl
set_option maxRecDepth 4000 in
theorem dk110 {code : ByteArray} {p b1 b2 : Nat} (hb : b3 code p 110 b1 b2 1) : DCc code p (.fdiv) := by
  obtain ⟨h0, h1, h2⟩ := hb
  refine dec_of (q := p + 1) ?_ (by rw [Nat.add_sub_cancel_left]; rfl)
  exact (rd_bind (x := Reader.u1) h0).trans rfl
set_option maxRecDepth 4000 in
theorem dk111 {code : ByteArray} {p b1 b2 : Nat} (hb : b3 code p 111 b1 b2 1) : DCc code p (.ddiv) := by
  obtain ⟨h0, h1, h2⟩ := hb
  refine dec_of (q := p + 1) ?_ (by rw [Nat.add_sub_cancel_left]; rfl)
  exact (rd_bind (x := Reader.u1) h0).trans rfl
set_option maxRecDepth 4000 in
theorem dk112 {code : ByteArray} {p b1 b2 : Nat} (hb : b3 code p 112 b1 b2 1) : DCc code p (.irem) := by
  obtain ⟨h0, h1, h2⟩ := hb
  refine dec_of (q := p + 1) ?_ (by rw [Nat.add_sub_cancel_left]; rfl)
  exact (rd_bind (x := Reader.u1) h0).trans rfl
set_option maxRecDepth 4000 in
theorem dk116 {code : ByteArray} {p b1 b2 : Nat} (hb : b3 code p 116 b1 b2 1) : DCc code p (.ineg) := by
  obtain ⟨h0, h1, h2⟩ := hb
  refine dec_of (q := p + 1) ?_ (by rw [Nat.add_sub_cancel_left]; rfl)
  exact (rd_bind (x := Reader.u1) h0).trans rfl
set_option maxRecDepth 4000 in
theorem dk120 {code : ByteArray} {p b1 b2 : Nat} (hb : b3 code p 120 b1 b2 1) : DCc code p (.ishl) := by
  obtain ⟨h0, h1, h2⟩ := hb
  refine dec_of (q := p + 1) ?_ (by rw [Nat.add_sub_cancel_left]; rfl)
  exact (rd_bind (x := Reader.u1) h0).trans rfl
set_option maxRecDepth 4000 in
theorem dk122 {code : ByteArray} {p b1 b2 : Nat} (hb : b3 code p 122 b1 b2 1) : DCc code p (.ishr) := by
  obtain ⟨h0, h1, h2⟩ := hb
  refine dec_of (q := p + 1) ?_ (by rw [Nat.add_sub_cancel_left]; rfl)
  exact (rd_bind (x := Reader.u1) h0).trans rfl
set_option maxRecDepth 4000 in
theorem dk126 {code : ByteArray} {p b1 b2 : Nat} (hb : b3 code p 126 b1 b2 1) : DCc code p (.iand) := by
  obtain ⟨h0, h1, h2⟩ := hb
  refine dec_of (q := p + 1) ?_ (by rw [Nat.add_sub_cancel_left]; rfl)
  exact (rd_bind (x := Reader.u1) h0).trans rfl
set_option maxRecDepth 4000 in
theorem dk128 {code : ByteArray} {p b1 b2 : Nat} (hb : b3 code p 128 b1 b2 1) : DCc code p (.ior) := by
  obtain ⟨h0, h1, h2⟩ := hb
  refine dec_of (q := p + 1) ?_ (by rw [Nat.add_sub_cancel_left]; rfl)
  exact (rd_bind (x := Reader.u1) h0).trans rfl
set_option maxRecDepth 4000 in
theorem dk130 {code : ByteArray} {p b1 b2 : Nat} (hb : b3 code p 130 b1 b2 1) : DCc code p (.ixor) := by
  obtain ⟨h0, h1, h2⟩ := hb
  refine dec_of (q := p + 1) ?_ (by rw [Nat.add_sub_cancel_left]; rfl)
  exact (rd_bind (x := Reader.u1) h0).trans rfl
set_option maxRecDepth 4000 in
theorem dk132 {code : ByteArray} {p b1 b2 : Nat} (hb : b3 code p 132 b1 b2 3) : DCc code p (.iinc b1 (Reader.signed 8 b2)) := by
  obtain ⟨h0, h1, h2⟩ := hb
  refine dec_of (q := p + 3) ?_ (by rw [Nat.add_sub_cancel_left]; rfl)
  refine (rd_bind (x := Reader.u1) h0).trans ?_
  exact (rd_bind (h1 (by decide))).trans (rd_bind (s1_at (h2 (by decide))))
set_option maxRecDepth 4000 in
theorem dk133 {code : ByteArray} {p b1 b2 : Nat} (hb : b3 code p 133 b1 b2 1) : DCc code p (.i2l) := by
  obtain ⟨h0, h1, h2⟩ := hb
  refine dec_of (q := p + 1) ?_ (by rw [Nat.add_sub_cancel_left]; rfl)
  exact (rd_bind (x := Reader.u1) h0).trans rfl
set_option maxRecDepth 4000 in
theorem dk134 {code : ByteArray} {p b1 b2 : Nat} (hb : b3 code p 134 b1 b2 1) : DCc code p (.i2f) := by
  obtain ⟨h0, h1, h2⟩ := hb
  refine dec_of (q := p + 1) ?_ (by rw [Nat.add_sub_cancel_left]; rfl)
  exact (rd_bind (x := Reader.u1) h0).trans rfl
set_option maxRecDepth 4000 in
theorem dk135 {code : ByteArray} {p b1 b2 : Nat} (hb : b3 code p 135 b1 b2 1) : DCc code p (.i2d) := by
  obtain ⟨h0, h1, h2⟩ := hb
  refine dec_of (q := p + 1) ?_ (by rw [Nat.add_sub_cancel_left]; rfl)
  exact (rd_bind (x := Reader.u1) h0).trans rfl
set_option maxRecDepth 4000 in
theorem dk136 {code : ByteArray} {p b1 b2 : Nat} (hb : b3 code p 136 b1 b2 1) : DCc code p (.l2i) := by
  obtain ⟨h0, h1, h2⟩ := hb
  refine dec_of (q := p + 1) ?_ (by rw [Nat.add_sub_cancel_left]; rfl)
  exact (rd_bind (x := Reader.u1) h0).trans rfl
set_option maxRecDepth 4000 in
theorem dk137 {code : ByteArray} {p b1 b2 : Nat} (hb : b3 code p 137 b1 b2 1) : DCc code p (.l2f) := by
  obtain ⟨h0, h1, h2⟩ := hb
  refine dec_of (q := p + 1) ?_ (by rw [Nat.add_sub_cancel_left]; rfl)
  exact (rd_bind (x := Reader.u1) h0).trans rfl
set_option maxRecDepth 4000 in
theorem dk141 {code : ByteArray} {p b1 b2 : Nat} (hb : b3 code p 141 b1 b2 1) : DCc code p (.f2d) := by
  obtain ⟨h0, h1, h2⟩ := hb
  refine dec_of (q := p + 1) ?_ (by rw [Nat.add_sub_cancel_left]; rfl)
  exact (rd_bind (x := Reader.u1) h0).trans rfl
set_option maxRecDepth 4000 in
theorem dk145 {code : ByteArray} {p b1 b2 : Nat} (hb : b3 code p 145 b1 b2 1) : DCc code p (.i2b) := by
  obtain ⟨h0, h1, h2⟩ := hb
  refine dec_of (q := p + 1) ?_ (by rw [Nat.add_sub_cancel_left]; rfl)
  exact (rd_bind (x := Reader.u1) h0).trans rfl
set_option maxRecDepth 4000 in
theorem dk146 {code : ByteArray} {p b1 b2 : Nat} (hb : b3 code p 146 b1 b2 1) : DCc code p (.i2c) := by
  obtain ⟨h0, h1, h2⟩ := hb
  refine dec_of (q := p + 1) ?_ (by rw [Nat.add_sub_cancel_left]; rfl)
  exact (rd_bind (x := Reader.u1) h0).trans rfl
set_option maxRecDepth 4000 in
theorem dk148 {code : ByteArray} {p b1 b2 : Nat} (hb : b3 code p 148 b1 b2 1) : DCc code p (.lcmp) := by
  obtain ⟨h0, h1, h2⟩ := hb
  refine dec_of (q := p + 1) ?_ (by rw [Nat.add_sub_cancel_left]; rfl)
  exact (rd_bind (x := Reader.u1) h0).trans rfl
set_option maxRecDepth 4000 in
theorem dk149 {code : ByteArray} {p b1 b2 : Nat} (hb : b3 code p 149 b1 b2 1) : DCc code p (.fcmp .l) := by
  obtain ⟨h0, h1, h2⟩ := hb
  refine dec_of (q := p + 1) ?_ (by rw [Nat.add_sub_cancel_left]; rfl)
  exact (rd_bind (x := Reader.u1) h0).trans rfl
set_option maxRecDepth 4000 in
theorem dk150 {code : ByteArray} {p b1 b2 : Nat} (hb : b3 code p 150 b1 b2 1) : DCc code p (.fcmp .g) := by
  obtain ⟨h0, h1, h2⟩ := hb
  refine dec_of (q := p + 1) ?_ (by rw [Nat.add_sub_cancel_left]; rfl)
  exact (rd_bind (x := Reader.u1) h0).trans rfl
set_option maxRecDepth 4000 in
theorem dk151 {code : ByteArray} {p b1 b2 : Nat} (hb : b3 code p 151 b1 b2 1) : DCc code p (.dcmp .l) := by
  obtain ⟨h0, h1, h2⟩ := hb
  refine dec_of (q := p + 1) ?_ (by rw [Nat.add_sub_cancel_left]; rfl)
  exact (rd_bind (x := Reader.u1) h0).trans rfl
set_option maxRecDepth 4000 in
theorem dk152 {code : ByteArray} {p b1 b2 : Nat} (hb : b3 code p 152 b1 b2 1) : DCc code p (.dcmp .g) := by
  obtain ⟨h0, h1, h2⟩ := hb
  refine dec_of (q := p + 1) ?_ (by rw [Nat.add_sub_cancel_left]; rfl)
  exact (rd_bind (x := Reader.u1) h0).trans rfl
set_option maxRecDepth 4000 in
theorem dk153 {code : ByteArray} {p b1 b2 : Nat} (hb : b3 code p 153 b1 b2 3) : DCc code p (.ifCond .eq (Reader.signed 16 (b1 * 256 + b2))) := by
  obtain ⟨h0, h1, h2⟩ := hb
  refine dec_of (q := p + 3) ?_ (by rw [Nat.add_sub_cancel_left]; rfl)
  refine (rd_bind (x := Reader.u1) h0).trans ?_
  exact rd_bind (s2_at (h1 (by decide)) (h2 (by decide)))
set_option maxRecDepth 4000 in
theorem dk154 {code : ByteArray} {p b1 b2 : Nat} (hb : b3 code p 154 b1 b2 3) : DCc code p (.ifCond .ne (Reader.signed 16 (b1 * 256 + b2))) := by
  obtain ⟨h0, h1, h2⟩ := hb
  refine dec_of (q := p + 3) ?_ (by rw [Nat.add_sub_cancel_left]; rfl)
  refine (rd_bind (x := Reader.u1) h0).trans ?_
  exact rd_bind (s2_at (h1 (by decide)) (h2 (by decide)))
set_option maxRecDepth 4000 in
theorem dk155 {code : ByteArray} {p b1 b2 : Nat} (hb : b3 code p 155 b1 b2 3) : DCc code p (.ifCond .lt (Reader.signed 16 (b1 * 256 + b2))) := by
  obtain ⟨h0, h1, h2⟩ := hb
  refine dec_of (q := p + 3) ?_ (by rw [Nat.add_sub_cancel_left]; rfl)
  refine (rd_bind (x := Reader.u1) h0).trans ?_
  exact rd_bind (s2_at (h1 (by decide)) (h2 (by decide)))
set_option maxRecDepth 4000 in
theorem dk156 {code : ByteArray} {p b1 b2 : Nat} (hb : b3 code p 156 b1 b2 3) : DCc code p (.ifCond .ge (Reader.signed 16 (b1 * 256 + b2))) := by
  obtain ⟨h0, h1, h2⟩ := hb
  refine dec_of (q := p + 3) ?_ (by rw [Nat.add_sub_cancel_left]; rfl)
  refine (rd_bind (x := Reader.u1) h0).trans ?_
  exact rd_bind (s2_at (h1 (by decide)) (h2 (by decide)))
set_option maxRecDepth 4000 in
theorem dk157 {code : ByteArray} {p b1 b2 : Nat} (hb : b3 code p 157 b1 b2 3) : DCc code p (.ifCond .gt (Reader.signed 16 (b1 * 256 + b2))) := by
  obtain ⟨h0, h1, h2⟩ := hb
  refine dec_of (q := p + 3) ?_ (by rw [Nat.add_sub_cancel_left]; rfl)
  refine (rd_bind (x := Reader.u1) h0).trans ?_
  exact rd_bind (s2_at (h1 (by decide)) (h2 (by decide)))
set_option maxRecDepth 4000 in
theorem dk158 {code : ByteArray} {p b1 b2 : Nat} (hb : b3 code p 158 b1 b2 3) : DCc code p (.ifCond .le (Reader.signed 16 (b1 * 256 + b2))) := by
  obtain ⟨h0, h1, h2⟩ := hb
  refine dec_of (q := p + 3) ?_ (by rw [Nat.add_sub_cancel_left]; rfl)
  refine (rd_bind (x := Reader.u1) h0).trans ?_
  exact rd_bind (s2_at (h1 (by decide)) (h2 (by decide)))
set_option maxRecDepth 4000 in
theorem dk159 {code : ByteArray} {p b1 b2 : Nat} (hb : b3 code p 159 b1 b2 3) : DCc code p (.if_icmp .eq (Reader.signed 16 (b1 * 256 + b2))) := by
  obtain ⟨h0, h1, h2⟩ := hb
  refine dec_of (q := p + 3) ?_ (by rw [Nat.add_sub_cancel_left]; rfl)
  refine (rd_bind (x := Reader.u1) h0).trans ?_
  exact rd_bind (s2_at (h1 (by decide)) (h2 (by decide)))
set_option maxRecDepth 4000 in
theorem dk160 {code : ByteArray} {p b1 b2 : Nat} (hb : b3 code p 160 b1 b2 3) : DCc code p (.if_icmp .ne (Reader.signed 16 (b1 * 256 + b2))) := by
  obtain ⟨h0, h1, h2⟩ := hb
  refine dec_of (q := p + 3) ?_ (by rw [Nat.add_sub_cancel_left]; rfl)
  refine (rd_bind (x := Reader.u1) h0).trans ?_
  exact rd_bind (s2_at (h1 (by decide)) (h2 (by decide)))
set_option maxRecDepth 4000 in
theorem dk161 {code : ByteArray} {p b1 b2 : Nat} (hb : b3 code p 161 b1 b2 3) : DCc code p (.if_icmp .lt (Reader.signed 16 (b1 * 256 + b2))) := by
  obtain ⟨h0, h1, h2⟩ := hb
  refine dec_of (q := p + 3) ?_ (by rw [Nat.add_sub_cancel_left]; rfl)
  refine (rd_bind (x := Reader.u1) h0).trans ?_
  exact rd_bind (s2_at (h1 (by decide)) (h2 (by decide)))
set_option maxRecDepth 4000 in
theorem dk162 {code : ByteArray} {p b1 b2 : Nat} (hb : b3 code p 162 b1 b2 3) : DCc code p (.if_icmp .ge (Reader.signed 16 (b1 * 256 + b2))) := by
  obtain ⟨h0, h1, h2⟩ := hb
  refine dec_of (q := p + 3) ?_ (by rw [Nat.add_sub_cancel_left]; rfl)
  refine (rd_bind (x := Reader.u1) h0).trans ?_
  exact rd_bind (s2_at (h1 (by decide)) (h2 (by decide)))
set_option maxRecDepth 4000 in
theorem dk163 {code : ByteArray} {p b1 b2 : Nat} (hb : b3 code p 163 b1 b2 3) : DCc code p (.if_icmp .gt (Reader.signed 16 (b1 * 256 + b2))) := by
  obtain ⟨h0, h1, h2⟩ := hb
  refine dec_of (q := p + 3) ?_ (by rw [Nat.add_sub_cancel_left]; rfl)
  refine (rd_bind (x := Reader.u1) h0).trans ?_
  exact rd_bind (s2_at (h1 (by decide)) (h2 (by decide)))
set_option maxRecDepth 4000 in
theorem dk164 {code : ByteArray} {p b1 b2 : Nat} (hb : b3 code p 164 b1 b2 3) : DCc code p (.if_icmp .le (Reader.signed 16 (b1 * 256 + b2))) := by
  obtain ⟨h0, h1, h2⟩ := hb
  refine dec_of (q := p + 3) ?_ (by rw [Nat.add_sub_cancel_left]; rfl)
  refine (rd_bind (x := Reader.u1) h0).trans ?_
  exact rd_bind (s2_at (h1 (by decide)) (h2 (by decide)))
set_option maxRecDepth 4000 in
theorem dk167 {code : ByteArray} {p b1 b2 : Nat} (hb : b3 code p 167 b1 b2 3) : DCc code p (.goto (Reader.signed 16 (b1 * 256 + b2))) := by
  obtain ⟨h0, h1, h2⟩ := hb
  refine dec_of (q := p + 3) ?_ (by rw [Nat.add_sub_cancel_left]; rfl)
  refine (rd_bind (x := Reader.u1) h0).trans ?_
  exact rd_bind (s2_at (h1 (by decide)) (h2 (by decide)))
set_option maxRecDepth 4000 in
theorem dk172 {code : ByteArray} {p b1 b2 : Nat} (hb : b3 code p 172 b1 b2 1) : DCc code p (.ireturn) := by
  obtain ⟨h0, h1, h2⟩ := hb
  refine dec_of (q := p + 1) ?_ (by rw [Nat.add_sub_cancel_left]; rfl)
  exact (rd_bind (x := Reader.u1) h0).trans rfl
set_option maxRecDepth 4000 in
theorem dk173 {code : ByteArray} {p b1 b2 : Nat} (hb : b3 code p 173 b1 b2 1) : DCc code p (.lreturn) := by
  obtain ⟨h0, h1, h2⟩ := hb
  refine dec_of (q := p + 1) ?_ (by rw [Nat.add_sub_cancel_left]; rfl)
  exact (rd_bind (x := Reader.u1) h0).trans rfl
set_option maxRecDepth 4000 in
theorem dk174 {code : ByteArray} {p b1 b2 : Nat} (hb : b3 code p 174 b1 b2 1) : DCc code p (.freturn) := by
  obtain ⟨h0, h1, h2⟩ := hb
  refine dec_of (q := p + 1) ?_ (by rw [Nat.add_sub_cancel_left]; rfl)
  exact (rd_bind (x := Reader.u1) h0).trans rfl
set_option maxRecDepth 4000 in
theorem dk175 {code : ByteArray} {p b1 b2 : Nat} (hb : b3 code p 175 b1 b2 1) : DCc code p (.dreturn) := by
  obtain ⟨h0, h1, h2⟩ := hb
  refine dec_of (q := p + 1) ?_ (by rw [Nat.add_sub_cancel_left]; rfl)
  exact (rd_bind (x := Reader.u1) h0).trans rfl
set_option maxRecDepth 4000 in
theorem dk176 {code : ByteArray} {p b1 b2 : Nat} (hb : b3 code p 176 b1 b2 1) : DCc code p (.areturn) := by
  obtain ⟨h0, h1, h2⟩ := hb
  refine dec_of (q := p + 1) ?_ (by rw [Nat.add_sub_cancel_left]; rfl)
  exact (rd_bind (x := Reader.u1) h0).trans rfl
set_option maxRecDepth 4000 in
theorem dk177 {code : ByteArray} {p b1 b2 : Nat} (hb : b3 code p 177 b1 b2 1) : DCc code p (.return_) := by
  obtain ⟨h0, h1, h2⟩ := hb
  refine dec_of (q := p + 1) ?_ (by rw [Nat.add_sub_cancel_left]; rfl)
  exact (rd_bind (x := Reader.u1) h0).trans rfl
set_option maxRecDepth 4000 in
theorem dk178 {code : ByteArray} {p b1 b2 : Nat} (hb : b3 code p 178 b1 b2 3) : DCc code p (.getstatic (b1 * 256 + b2)) := by
  obtain ⟨h0, h1, h2⟩ := hb
  refine dec_of (q := p + 3) ?_ (by rw [Nat.add_sub_cancel_left]; rfl)
  refine (rd_bind (x := Reader.u1) h0).trans ?_
  exact rd_bind (u2_at (h1 (by decide)) (h2 (by decide)))
set_option maxRecDepth 4000 in
theorem dk180 {code : ByteArray} {p b1 b2 : Nat} (hb : b3 code p 180 b1 b2 3) : DCc code p (.getfield (b1 * 256 + b2)) := by
  obtain ⟨h0, h1, h2⟩ := hb
  refine dec_of (q := p + 3) ?_ (by rw [Nat.add_sub_cancel_left]; rfl)
  refine (rd_bind (x := Reader.u1) h0).trans ?_
  exact rd_bind (u2_at (h1 (by decide)) (h2 (by decide)))
set_option maxRecDepth 4000 in
theorem dk181 {code : ByteArray} {p b1 b2 : Nat} (hb : b3 code p 181 b1 b2 3) : DCc code p (.putfield (b1 * 256 + b2)) := by
  obtain ⟨h0, h1, h2⟩ := hb
  refine dec_of (q := p + 3) ?_ (by rw [Nat.add_sub_cancel_left]; rfl)
  refine (rd_bind (x := Reader.u1) h0).trans ?_
  exact rd_bind (u2_at (h1 (by decide)) (h2 (by decide)))
set_option maxRecDepth 4000 in
theorem dk182 {code : ByteArray} {p b1 b2 : Nat} (hb : b3 code p 182 b1 b2 3) : DCc code p (.invokevirtual (b1 * 256 + b2)) := by
  obtain ⟨h0, h1, h2⟩ := hb
  refine dec_of (q := p + 3) ?_ (by rw [Nat.add_sub_cancel_left]; rfl)
  refine (rd_bind (x := Reader.u1) h0).trans ?_
  exact rd_bind (u2_at (h1 (by decide)) (h2 (by decide)))
set_option maxRecDepth 4000 in
theorem dk183 {code : ByteArray} {p b1 b2 : Nat} (hb : b3 code p 183 b1 b2 3) : DCc code p (.invokespecial (b1 * 256 + b2)) := by
  obtain ⟨h0, h1, h2⟩ := hb
  refine dec_of (q := p + 3) ?_ (by rw [Nat.add_sub_cancel_left]; rfl)
  refine (rd_bind (x := Reader.u1) h0).trans ?_
  exact rd_bind (u2_at (h1 (by decide)) (h2 (by decide)))
set_option maxRecDepth 4000 in
theorem dk184 {code : ByteArray} {p b1 b2 : Nat} (hb : b3 code p 184 b1 b2 3) : DCc code p (.invokestatic (b1 * 256 + b2)) := by
  obtain ⟨h0, h1, h2⟩ := hb
  refine dec_of (q := p + 3) ?_ (by rw [Nat.add_sub_cancel_left]; rfl)
  refine (rd_bind (x := Reader.u1) h0).trans ?_
  exact rd_bind (u2_at (h1 (by decide)) (h2 (by decide)))
set_option maxRecDepth 4000 in
theorem dk187 {code : ByteArray} {p b1 b2 : Nat} (hb : b3 code p 187 b1 b2 3) : DCc code p (.new (b1 * 256 + b2)) := by
  obtain ⟨h0, h1, h2⟩ := hb
  refine dec_of (q := p + 3) ?_ (by rw [Nat.add_sub_cancel_left]; rfl)
  refine (rd_bind (x := Reader.u1) h0).trans ?_
  exact rd_bind (u2_at (h1 (by decide)) (h2 (by decide)))
set_option maxRecDepth 4000 in
theorem dk189 {code : ByteArray} {p b1 b2 : Nat} (hb : b3 code p 189 b1 b2 3) : DCc code p (.anewarray (b1 * 256 + b2)) := by
  obtain ⟨h0, h1, h2⟩ := hb
  refine dec_of (q := p + 3) ?_ (by rw [Nat.add_sub_cancel_left]; rfl)
  refine (rd_bind (x := Reader.u1) h0).trans ?_
  exact rd_bind (u2_at (h1 (by decide)) (h2 (by decide)))
set_option maxRecDepth 4000 in
theorem dk190 {code : ByteArray} {p b1 b2 : Nat} (hb : b3 code p 190 b1 b2 1) : DCc code p (.arraylength) := by
  obtain ⟨h0, h1, h2⟩ := hb
  refine dec_of (q := p + 1) ?_ (by rw [Nat.add_sub_cancel_left]; rfl)
  exact (rd_bind (x := Reader.u1) h0).trans rfl
set_option maxRecDepth 4000 in
theorem dk191 {code : ByteArray} {p b1 b2 : Nat} (hb : b3 code p 191 b1 b2 1) : DCc code p (.athrow) := by
  obtain ⟨h0, h1, h2⟩ := hb
  refine dec_of (q := p + 1) ?_ (by rw [Nat.add_sub_cancel_left]; rfl)
  exact (rd_bind (x := Reader.u1) h0).trans rfl
set_option maxRecDepth 4000 in
theorem dk198 {code : ByteArray} {p b1 b2 : Nat} (hb : b3 code p 198 b1 b2 3) : DCc code p (.ifnull (Reader.signed 16 (b1 * 256 + b2))) := by
  obtain ⟨h0, h1, h2⟩ := hb
  refine dec_of (q := p + 3) ?_ (by rw [Nat.add_sub_cancel_left]; rfl)
  refine (rd_bind (x := Reader.u1) h0).trans ?_
  exact rd_bind (s2_at (h1 (by decide)) (h2 (by decide)))
set_option maxRecDepth 4000 in
theorem dk199 {code : ByteArray} {p b1 b2 : Nat} (hb : b3 code p 199 b1 b2 3) : DCc code p (.ifnonnull (Reader.signed 16 (b1 * 256 + b2))) := by
  obtain ⟨h0, h1, h2⟩ := hb
  refine dec_of (q := p + 3) ?_ (by rw [Nat.add_sub_cancel_left]; rfl)
  refine (rd_bind (x := Reader.u1) h0).trans ?_
  exact rd_bind (s2_at (h1 (by decide)) (h2 (by decide)))
set_option maxRecDepth 4000 in
theorem dk188_4 {code : ByteArray} {p b2 : Nat} (hb : b3 code p 188 4 b2 2) : DCc code p (.newarray .boolean) := by
  obtain ⟨h0, h1, h2⟩ := hb
  refine dec_of (q := p + 2) ?_ (by rw [Nat.add_sub_cancel_left]; rfl)
  refine (rd_bind (x := Reader.u1) h0).trans ?_
  exact rd_bind (h1 (by decide))
set_option maxRecDepth 4000 in
theorem dk188_7 {code : ByteArray} {p b2 : Nat} (hb : b3 code p 188 7 b2 2) : DCc code p (.newarray .double) := by
  obtain ⟨h0, h1, h2⟩ := hb
  refine dec_of (q := p + 2) ?_ (by rw [Nat.add_sub_cancel_left]; rfl)
  refine (rd_bind (x := Reader.u1) h0).trans ?_
  exact rd_bind (h1 (by decide))
set_option maxRecDepth 4000 in
theorem dk188_8 {code : ByteArray} {p b2 : Nat} (hb : b3 code p 188 8 b2 2) : DCc code p (.newarray .byte) := by
  obtain ⟨h0, h1, h2⟩ := hb
  refine dec_of (q := p + 2) ?_ (by rw [Nat.add_sub_cancel_left]; rfl)
  refine (rd_bind (x := Reader.u1) h0).trans ?_
  exact rd_bind (h1 (by decide))
set_option maxRecDepth 4000 in
theorem dk188_10 {code : ByteArray} {p b2 : Nat} (hb : b3 code p 188 10 b2 2) : DCc code p (.newarray .int) := by
  obtain ⟨h0, h1, h2⟩ := hb
  refine dec_of (q := p + 2) ?_ (by rw [Nat.add_sub_cancel_left]; rfl)
  refine (rd_bind (x := Reader.u1) h0).trans ?_
  exact rd_bind (h1 (by decide))
set_option maxRecDepth 4000 in
theorem dk188_11 {code : ByteArray} {p b2 : Nat} (hb : b3 code p 188 11 b2 2) : DCc code p (.newarray .long) := by
  obtain ⟨h0, h1, h2⟩ := hb
  refine dec_of (q := p + 2) ?_ (by rw [Nat.add_sub_cancel_left]; rfl)
  refine (rd_bind (x := Reader.u1) h0).trans ?_
  exact rd_bind (h1 (by decide))
def dT : List (Nat × Nat × (Nat → Nat → Option Instr)) := [(1, 1, fun b1 b2 => some (.aconst_null)),
  (2, 1, fun b1 b2 => some (.iconst (-1))),
  (3, 1, fun b1 b2 => some (.iconst 0)),
  (4, 1, fun b1 b2 => some (.iconst 1)),
  (5, 1, fun b1 b2 => some (.iconst 2)),
  (6, 1, fun b1 b2 => some (.iconst 3)),
  (7, 1, fun b1 b2 => some (.iconst 4)),
  (8, 1, fun b1 b2 => some (.iconst 5)),
  (9, 1, fun b1 b2 => some (.lconst 0)),
  (10, 1, fun b1 b2 => some (.lconst 1)),
  (11, 1, fun b1 b2 => some (.fconst 0)),
  (12, 1, fun b1 b2 => some (.fconst 1)),
  (13, 1, fun b1 b2 => some (.fconst 2)),
  (14, 1, fun b1 b2 => some (.dconst 0)),
  (15, 1, fun b1 b2 => some (.dconst 1)),
  (16, 2, fun b1 b2 => some (.bipush (Reader.signed 8 b1))),
  (17, 3, fun b1 b2 => some (.sipush (Reader.signed 16 (b1 * 256 + b2)))),
  (18, 2, fun b1 b2 => some (.ldc b1)),
  (19, 3, fun b1 b2 => some (.ldc_w (b1 * 256 + b2))),
  (20, 3, fun b1 b2 => some (.ldc2_w (b1 * 256 + b2))),
  (21, 2, fun b1 b2 => some (.iload b1)),
  (22, 2, fun b1 b2 => some (.lload b1)),
  (23, 2, fun b1 b2 => some (.fload b1)),
  (24, 2, fun b1 b2 => some (.dload b1)),
  (25, 2, fun b1 b2 => some (.aload b1)),
  (26, 1, fun b1 b2 => some (.iload_n 0)),
  (27, 1, fun b1 b2 => some (.iload_n 1)),
  (28, 1, fun b1 b2 => some (.iload_n 2)),
  (29, 1, fun b1 b2 => some (.iload_n 3)),
  (30, 1, fun b1 b2 => some (.lload_n 0)),
  (31, 1, fun b1 b2 => some (.lload_n 1)),
  (32, 1, fun b1 b2 => some (.lload_n 2)),
  (33, 1, fun b1 b2 => some (.lload_n 3)),
  (42, 1, fun b1 b2 => some (.aload_n 0)),
  (43, 1, fun b1 b2 => some (.aload_n 1)),
  (44, 1, fun b1 b2 => some (.aload_n 2)),
  (45, 1, fun b1 b2 => some (.aload_n 3)),
  (46, 1, fun b1 b2 => some (.iaload)),
  (47, 1, fun b1 b2 => some (.laload)),
  (49, 1, fun b1 b2 => some (.daload)),
  (50, 1, fun b1 b2 => some (.aaload)),
  (51, 1, fun b1 b2 => some (.baload)),
  (54, 2, fun b1 b2 => some (.istore b1)),
  (55, 2, fun b1 b2 => some (.lstore b1)),
  (56, 2, fun b1 b2 => some (.fstore b1)),
  (57, 2, fun b1 b2 => some (.dstore b1)),
  (58, 2, fun b1 b2 => some (.astore b1)),
  (59, 1, fun b1 b2 => some (.istore_n 0)),
  (60, 1, fun b1 b2 => some (.istore_n 1)),
  (61, 1, fun b1 b2 => some (.istore_n 2)),
  (62, 1, fun b1 b2 => some (.istore_n 3)),
  (63, 1, fun b1 b2 => some (.lstore_n 0)),
  (64, 1, fun b1 b2 => some (.lstore_n 1)),
  (65, 1, fun b1 b2 => some (.lstore_n 2)),
  (66, 1, fun b1 b2 => some (.lstore_n 3)),
  (75, 1, fun b1 b2 => some (.astore_n 0)),
  (76, 1, fun b1 b2 => some (.astore_n 1)),
  (77, 1, fun b1 b2 => some (.astore_n 2)),
  (78, 1, fun b1 b2 => some (.astore_n 3)),
  (79, 1, fun b1 b2 => some (.iastore)),
  (80, 1, fun b1 b2 => some (.lastore)),
  (82, 1, fun b1 b2 => some (.dastore)),
  (83, 1, fun b1 b2 => some (.aastore)),
  (84, 1, fun b1 b2 => some (.bastore)),
  (87, 1, fun b1 b2 => some (.pop)),
  (89, 1, fun b1 b2 => some (.dup)),
  (92, 1, fun b1 b2 => some (.dup2)),
  (96, 1, fun b1 b2 => some (.iadd)),
  (97, 1, fun b1 b2 => some (.ladd)),
  (100, 1, fun b1 b2 => some (.isub)),
  (101, 1, fun b1 b2 => some (.lsub)),
  (104, 1, fun b1 b2 => some (.imul)),
  (108, 1, fun b1 b2 => some (.idiv)),
  (110, 1, fun b1 b2 => some (.fdiv)),
  (111, 1, fun b1 b2 => some (.ddiv)),
  (112, 1, fun b1 b2 => some (.irem)),
  (116, 1, fun b1 b2 => some (.ineg)),
  (120, 1, fun b1 b2 => some (.ishl)),
  (122, 1, fun b1 b2 => some (.ishr)),
  (126, 1, fun b1 b2 => some (.iand)),
  (128, 1, fun b1 b2 => some (.ior)),
  (130, 1, fun b1 b2 => some (.ixor)),
  (132, 3, fun b1 b2 => some (.iinc b1 (Reader.signed 8 b2))),
  (133, 1, fun b1 b2 => some (.i2l)),
  (134, 1, fun b1 b2 => some (.i2f)),
  (135, 1, fun b1 b2 => some (.i2d)),
  (136, 1, fun b1 b2 => some (.l2i)),
  (137, 1, fun b1 b2 => some (.l2f)),
  (141, 1, fun b1 b2 => some (.f2d)),
  (145, 1, fun b1 b2 => some (.i2b)),
  (146, 1, fun b1 b2 => some (.i2c)),
  (148, 1, fun b1 b2 => some (.lcmp)),
  (149, 1, fun b1 b2 => some (.fcmp .l)),
  (150, 1, fun b1 b2 => some (.fcmp .g)),
  (151, 1, fun b1 b2 => some (.dcmp .l)),
  (152, 1, fun b1 b2 => some (.dcmp .g)),
  (153, 3, fun b1 b2 => some (.ifCond .eq (Reader.signed 16 (b1 * 256 + b2)))),
  (154, 3, fun b1 b2 => some (.ifCond .ne (Reader.signed 16 (b1 * 256 + b2)))),
  (155, 3, fun b1 b2 => some (.ifCond .lt (Reader.signed 16 (b1 * 256 + b2)))),
  (156, 3, fun b1 b2 => some (.ifCond .ge (Reader.signed 16 (b1 * 256 + b2)))),
  (157, 3, fun b1 b2 => some (.ifCond .gt (Reader.signed 16 (b1 * 256 + b2)))),
  (158, 3, fun b1 b2 => some (.ifCond .le (Reader.signed 16 (b1 * 256 + b2)))),
  (159, 3, fun b1 b2 => some (.if_icmp .eq (Reader.signed 16 (b1 * 256 + b2)))),
  (160, 3, fun b1 b2 => some (.if_icmp .ne (Reader.signed 16 (b1 * 256 + b2)))),
  (161, 3, fun b1 b2 => some (.if_icmp .lt (Reader.signed 16 (b1 * 256 + b2)))),
  (162, 3, fun b1 b2 => some (.if_icmp .ge (Reader.signed 16 (b1 * 256 + b2)))),
  (163, 3, fun b1 b2 => some (.if_icmp .gt (Reader.signed 16 (b1 * 256 + b2)))),
  (164, 3, fun b1 b2 => some (.if_icmp .le (Reader.signed 16 (b1 * 256 + b2)))),
  (167, 3, fun b1 b2 => some (.goto (Reader.signed 16 (b1 * 256 + b2)))),
  (172, 1, fun b1 b2 => some (.ireturn)),
  (173, 1, fun b1 b2 => some (.lreturn)),
  (174, 1, fun b1 b2 => some (.freturn)),
  (175, 1, fun b1 b2 => some (.dreturn)),
  (176, 1, fun b1 b2 => some (.areturn)),
  (177, 1, fun b1 b2 => some (.return_)),
  (178, 3, fun b1 b2 => some (.getstatic (b1 * 256 + b2))),
  (180, 3, fun b1 b2 => some (.getfield (b1 * 256 + b2))),
  (181, 3, fun b1 b2 => some (.putfield (b1 * 256 + b2))),
  (182, 3, fun b1 b2 => some (.invokevirtual (b1 * 256 + b2))),
  (183, 3, fun b1 b2 => some (.invokespecial (b1 * 256 + b2))),
  (184, 3, fun b1 b2 => some (.invokestatic (b1 * 256 + b2))),
  (187, 3, fun b1 b2 => some (.new (b1 * 256 + b2))),
  (189, 3, fun b1 b2 => some (.anewarray (b1 * 256 + b2))),
  (190, 1, fun b1 b2 => some (.arraylength)),
  (191, 1, fun b1 b2 => some (.athrow)),
  (198, 3, fun b1 b2 => some (.ifnull (Reader.signed 16 (b1 * 256 + b2)))),
  (199, 3, fun b1 b2 => some (.ifnonnull (Reader.signed 16 (b1 * 256 + b2)))),
  (188, 2, fun b1 _ => match b1 with | 4 => some (.newarray .boolean) | 7 => some (.newarray .double) | 8 => some (.newarray .byte) | 10 => some (.newarray .int) | 11 => some (.newarray .long) | _ => none)]
def dG (e : Nat × Nat × (Nat → Nat → Option Instr)) : Prop := ∀ (code : ByteArray) (p b1 b2 : Nat) (i : Instr), e.2.2 b1 b2 = some i → b3 code p e.1 b1 b2 e.2.1 → DCc code p i
set_option maxRecDepth 4000 in
theorem dk188 : dG (188, 2, fun b1 _ => match b1 with | 4 => some (.newarray .boolean) | 7 => some (.newarray .double) | 8 => some (.newarray .byte) | 10 => some (.newarray .int) | 11 => some (.newarray .long) | _ => none) := by
  intro code p b1 b2 i h hb
  dsimp only at h hb
  split at h
  · cases h; exact dk188_4 hb
  · cases h; exact dk188_7 hb
  · cases h; exact dk188_8 hb
  · cases h; exact dk188_10 hb
  · cases h; exact dk188_11 hb
  · cases h
set_option maxRecDepth 10000 in
theorem dT_ok : ∀ e ∈ dT, dG e := (List.forall_mem_cons.mpr ⟨(fun _ _ _ _ _ h hb => by cases h; exact dk1 hb), (List.forall_mem_cons.mpr ⟨(fun _ _ _ _ _ h hb => by cases h; exact dk2 hb), (List.forall_mem_cons.mpr ⟨(fun _ _ _ _ _ h hb => by cases h; exact dk3 hb), (List.forall_mem_cons.mpr ⟨(fun _ _ _ _ _ h hb => by cases h; exact dk4 hb), (List.forall_mem_cons.mpr ⟨(fun _ _ _ _ _ h hb => by cases h; exact dk5 hb), (List.forall_mem_cons.mpr ⟨(fun _ _ _ _ _ h hb => by cases h; exact dk6 hb), (List.forall_mem_cons.mpr ⟨(fun _ _ _ _ _ h hb => by cases h; exact dk7 hb), (List.forall_mem_cons.mpr ⟨(fun _ _ _ _ _ h hb => by cases h; exact dk8 hb), (List.forall_mem_cons.mpr ⟨(fun _ _ _ _ _ h hb => by cases h; exact dk9 hb), (List.forall_mem_cons.mpr ⟨(fun _ _ _ _ _ h hb => by cases h; exact dk10 hb), (List.forall_mem_cons.mpr ⟨(fun _ _ _ _ _ h hb => by cases h; exact dk11 hb), (List.forall_mem_cons.mpr ⟨(fun _ _ _ _ _ h hb => by cases h; exact dk12 hb), (List.forall_mem_cons.mpr ⟨(fun _ _ _ _ _ h hb => by cases h; exact dk13 hb), (List.forall_mem_cons.mpr ⟨(fun _ _ _ _ _ h hb => by cases h; exact dk14 hb), (List.forall_mem_cons.mpr ⟨(fun _ _ _ _ _ h hb => by cases h; exact dk15 hb), (List.forall_mem_cons.mpr ⟨(fun _ _ _ _ _ h hb => by cases h; exact dk16 hb), (List.forall_mem_cons.mpr ⟨(fun _ _ _ _ _ h hb => by cases h; exact dk17 hb), (List.forall_mem_cons.mpr ⟨(fun _ _ _ _ _ h hb => by cases h; exact dk18 hb), (List.forall_mem_cons.mpr ⟨(fun _ _ _ _ _ h hb => by cases h; exact dk19 hb), (List.forall_mem_cons.mpr ⟨(fun _ _ _ _ _ h hb => by cases h; exact dk20 hb), (List.forall_mem_cons.mpr ⟨(fun _ _ _ _ _ h hb => by cases h; exact dk21 hb), (List.forall_mem_cons.mpr ⟨(fun _ _ _ _ _ h hb => by cases h; exact dk22 hb), (List.forall_mem_cons.mpr ⟨(fun _ _ _ _ _ h hb => by cases h; exact dk23 hb), (List.forall_mem_cons.mpr ⟨(fun _ _ _ _ _ h hb => by cases h; exact dk24 hb), (List.forall_mem_cons.mpr ⟨(fun _ _ _ _ _ h hb => by cases h; exact dk25 hb), (List.forall_mem_cons.mpr ⟨(fun _ _ _ _ _ h hb => by cases h; exact dk26 hb), (List.forall_mem_cons.mpr ⟨(fun _ _ _ _ _ h hb => by cases h; exact dk27 hb), (List.forall_mem_cons.mpr ⟨(fun _ _ _ _ _ h hb => by cases h; exact dk28 hb), (List.forall_mem_cons.mpr ⟨(fun _ _ _ _ _ h hb => by cases h; exact dk29 hb), (List.forall_mem_cons.mpr ⟨(fun _ _ _ _ _ h hb => by cases h; exact dk30 hb), (List.forall_mem_cons.mpr ⟨(fun _ _ _ _ _ h hb => by cases h; exact dk31 hb), (List.forall_mem_cons.mpr ⟨(fun _ _ _ _ _ h hb => by cases h; exact dk32 hb), (List.forall_mem_cons.mpr ⟨(fun _ _ _ _ _ h hb => by cases h; exact dk33 hb), (List.forall_mem_cons.mpr ⟨(fun _ _ _ _ _ h hb => by cases h; exact dk42 hb), (List.forall_mem_cons.mpr ⟨(fun _ _ _ _ _ h hb => by cases h; exact dk43 hb), (List.forall_mem_cons.mpr ⟨(fun _ _ _ _ _ h hb => by cases h; exact dk44 hb), (List.forall_mem_cons.mpr ⟨(fun _ _ _ _ _ h hb => by cases h; exact dk45 hb), (List.forall_mem_cons.mpr ⟨(fun _ _ _ _ _ h hb => by cases h; exact dk46 hb), (List.forall_mem_cons.mpr ⟨(fun _ _ _ _ _ h hb => by cases h; exact dk47 hb), (List.forall_mem_cons.mpr ⟨(fun _ _ _ _ _ h hb => by cases h; exact dk49 hb), (List.forall_mem_cons.mpr ⟨(fun _ _ _ _ _ h hb => by cases h; exact dk50 hb), (List.forall_mem_cons.mpr ⟨(fun _ _ _ _ _ h hb => by cases h; exact dk51 hb), (List.forall_mem_cons.mpr ⟨(fun _ _ _ _ _ h hb => by cases h; exact dk54 hb), (List.forall_mem_cons.mpr ⟨(fun _ _ _ _ _ h hb => by cases h; exact dk55 hb), (List.forall_mem_cons.mpr ⟨(fun _ _ _ _ _ h hb => by cases h; exact dk56 hb), (List.forall_mem_cons.mpr ⟨(fun _ _ _ _ _ h hb => by cases h; exact dk57 hb), (List.forall_mem_cons.mpr ⟨(fun _ _ _ _ _ h hb => by cases h; exact dk58 hb), (List.forall_mem_cons.mpr ⟨(fun _ _ _ _ _ h hb => by cases h; exact dk59 hb), (List.forall_mem_cons.mpr ⟨(fun _ _ _ _ _ h hb => by cases h; exact dk60 hb), (List.forall_mem_cons.mpr ⟨(fun _ _ _ _ _ h hb => by cases h; exact dk61 hb), (List.forall_mem_cons.mpr ⟨(fun _ _ _ _ _ h hb => by cases h; exact dk62 hb), (List.forall_mem_cons.mpr ⟨(fun _ _ _ _ _ h hb => by cases h; exact dk63 hb), (List.forall_mem_cons.mpr ⟨(fun _ _ _ _ _ h hb => by cases h; exact dk64 hb), (List.forall_mem_cons.mpr ⟨(fun _ _ _ _ _ h hb => by cases h; exact dk65 hb), (List.forall_mem_cons.mpr ⟨(fun _ _ _ _ _ h hb => by cases h; exact dk66 hb), (List.forall_mem_cons.mpr ⟨(fun _ _ _ _ _ h hb => by cases h; exact dk75 hb), (List.forall_mem_cons.mpr ⟨(fun _ _ _ _ _ h hb => by cases h; exact dk76 hb), (List.forall_mem_cons.mpr ⟨(fun _ _ _ _ _ h hb => by cases h; exact dk77 hb), (List.forall_mem_cons.mpr ⟨(fun _ _ _ _ _ h hb => by cases h; exact dk78 hb), (List.forall_mem_cons.mpr ⟨(fun _ _ _ _ _ h hb => by cases h; exact dk79 hb), (List.forall_mem_cons.mpr ⟨(fun _ _ _ _ _ h hb => by cases h; exact dk80 hb), (List.forall_mem_cons.mpr ⟨(fun _ _ _ _ _ h hb => by cases h; exact dk82 hb), (List.forall_mem_cons.mpr ⟨(fun _ _ _ _ _ h hb => by cases h; exact dk83 hb), (List.forall_mem_cons.mpr ⟨(fun _ _ _ _ _ h hb => by cases h; exact dk84 hb), (List.forall_mem_cons.mpr ⟨(fun _ _ _ _ _ h hb => by cases h; exact dk87 hb), (List.forall_mem_cons.mpr ⟨(fun _ _ _ _ _ h hb => by cases h; exact dk89 hb), (List.forall_mem_cons.mpr ⟨(fun _ _ _ _ _ h hb => by cases h; exact dk92 hb), (List.forall_mem_cons.mpr ⟨(fun _ _ _ _ _ h hb => by cases h; exact dk96 hb), (List.forall_mem_cons.mpr ⟨(fun _ _ _ _ _ h hb => by cases h; exact dk97 hb), (List.forall_mem_cons.mpr ⟨(fun _ _ _ _ _ h hb => by cases h; exact dk100 hb), (List.forall_mem_cons.mpr ⟨(fun _ _ _ _ _ h hb => by cases h; exact dk101 hb), (List.forall_mem_cons.mpr ⟨(fun _ _ _ _ _ h hb => by cases h; exact dk104 hb), (List.forall_mem_cons.mpr ⟨(fun _ _ _ _ _ h hb => by cases h; exact dk108 hb), (List.forall_mem_cons.mpr ⟨(fun _ _ _ _ _ h hb => by cases h; exact dk110 hb), (List.forall_mem_cons.mpr ⟨(fun _ _ _ _ _ h hb => by cases h; exact dk111 hb), (List.forall_mem_cons.mpr ⟨(fun _ _ _ _ _ h hb => by cases h; exact dk112 hb), (List.forall_mem_cons.mpr ⟨(fun _ _ _ _ _ h hb => by cases h; exact dk116 hb), (List.forall_mem_cons.mpr ⟨(fun _ _ _ _ _ h hb => by cases h; exact dk120 hb), (List.forall_mem_cons.mpr ⟨(fun _ _ _ _ _ h hb => by cases h; exact dk122 hb), (List.forall_mem_cons.mpr ⟨(fun _ _ _ _ _ h hb => by cases h; exact dk126 hb), (List.forall_mem_cons.mpr ⟨(fun _ _ _ _ _ h hb => by cases h; exact dk128 hb), (List.forall_mem_cons.mpr ⟨(fun _ _ _ _ _ h hb => by cases h; exact dk130 hb), (List.forall_mem_cons.mpr ⟨(fun _ _ _ _ _ h hb => by cases h; exact dk132 hb), (List.forall_mem_cons.mpr ⟨(fun _ _ _ _ _ h hb => by cases h; exact dk133 hb), (List.forall_mem_cons.mpr ⟨(fun _ _ _ _ _ h hb => by cases h; exact dk134 hb), (List.forall_mem_cons.mpr ⟨(fun _ _ _ _ _ h hb => by cases h; exact dk135 hb), (List.forall_mem_cons.mpr ⟨(fun _ _ _ _ _ h hb => by cases h; exact dk136 hb), (List.forall_mem_cons.mpr ⟨(fun _ _ _ _ _ h hb => by cases h; exact dk137 hb), (List.forall_mem_cons.mpr ⟨(fun _ _ _ _ _ h hb => by cases h; exact dk141 hb), (List.forall_mem_cons.mpr ⟨(fun _ _ _ _ _ h hb => by cases h; exact dk145 hb), (List.forall_mem_cons.mpr ⟨(fun _ _ _ _ _ h hb => by cases h; exact dk146 hb), (List.forall_mem_cons.mpr ⟨(fun _ _ _ _ _ h hb => by cases h; exact dk148 hb), (List.forall_mem_cons.mpr ⟨(fun _ _ _ _ _ h hb => by cases h; exact dk149 hb), (List.forall_mem_cons.mpr ⟨(fun _ _ _ _ _ h hb => by cases h; exact dk150 hb), (List.forall_mem_cons.mpr ⟨(fun _ _ _ _ _ h hb => by cases h; exact dk151 hb), (List.forall_mem_cons.mpr ⟨(fun _ _ _ _ _ h hb => by cases h; exact dk152 hb), (List.forall_mem_cons.mpr ⟨(fun _ _ _ _ _ h hb => by cases h; exact dk153 hb), (List.forall_mem_cons.mpr ⟨(fun _ _ _ _ _ h hb => by cases h; exact dk154 hb), (List.forall_mem_cons.mpr ⟨(fun _ _ _ _ _ h hb => by cases h; exact dk155 hb), (List.forall_mem_cons.mpr ⟨(fun _ _ _ _ _ h hb => by cases h; exact dk156 hb), (List.forall_mem_cons.mpr ⟨(fun _ _ _ _ _ h hb => by cases h; exact dk157 hb), (List.forall_mem_cons.mpr ⟨(fun _ _ _ _ _ h hb => by cases h; exact dk158 hb), (List.forall_mem_cons.mpr ⟨(fun _ _ _ _ _ h hb => by cases h; exact dk159 hb), (List.forall_mem_cons.mpr ⟨(fun _ _ _ _ _ h hb => by cases h; exact dk160 hb), (List.forall_mem_cons.mpr ⟨(fun _ _ _ _ _ h hb => by cases h; exact dk161 hb), (List.forall_mem_cons.mpr ⟨(fun _ _ _ _ _ h hb => by cases h; exact dk162 hb), (List.forall_mem_cons.mpr ⟨(fun _ _ _ _ _ h hb => by cases h; exact dk163 hb), (List.forall_mem_cons.mpr ⟨(fun _ _ _ _ _ h hb => by cases h; exact dk164 hb), (List.forall_mem_cons.mpr ⟨(fun _ _ _ _ _ h hb => by cases h; exact dk167 hb), (List.forall_mem_cons.mpr ⟨(fun _ _ _ _ _ h hb => by cases h; exact dk172 hb), (List.forall_mem_cons.mpr ⟨(fun _ _ _ _ _ h hb => by cases h; exact dk173 hb), (List.forall_mem_cons.mpr ⟨(fun _ _ _ _ _ h hb => by cases h; exact dk174 hb), (List.forall_mem_cons.mpr ⟨(fun _ _ _ _ _ h hb => by cases h; exact dk175 hb), (List.forall_mem_cons.mpr ⟨(fun _ _ _ _ _ h hb => by cases h; exact dk176 hb), (List.forall_mem_cons.mpr ⟨(fun _ _ _ _ _ h hb => by cases h; exact dk177 hb), (List.forall_mem_cons.mpr ⟨(fun _ _ _ _ _ h hb => by cases h; exact dk178 hb), (List.forall_mem_cons.mpr ⟨(fun _ _ _ _ _ h hb => by cases h; exact dk180 hb), (List.forall_mem_cons.mpr ⟨(fun _ _ _ _ _ h hb => by cases h; exact dk181 hb), (List.forall_mem_cons.mpr ⟨(fun _ _ _ _ _ h hb => by cases h; exact dk182 hb), (List.forall_mem_cons.mpr ⟨(fun _ _ _ _ _ h hb => by cases h; exact dk183 hb), (List.forall_mem_cons.mpr ⟨(fun _ _ _ _ _ h hb => by cases h; exact dk184 hb), (List.forall_mem_cons.mpr ⟨(fun _ _ _ _ _ h hb => by cases h; exact dk187 hb), (List.forall_mem_cons.mpr ⟨(fun _ _ _ _ _ h hb => by cases h; exact dk189 hb), (List.forall_mem_cons.mpr ⟨(fun _ _ _ _ _ h hb => by cases h; exact dk190 hb), (List.forall_mem_cons.mpr ⟨(fun _ _ _ _ _ h hb => by cases h; exact dk191 hb), (List.forall_mem_cons.mpr ⟨(fun _ _ _ _ _ h hb => by cases h; exact dk198 hb), (List.forall_mem_cons.mpr ⟨(fun _ _ _ _ _ h hb => by cases h; exact dk199 hb), (List.forall_mem_cons.mpr ⟨dk188, (fun _ h => by cases h)⟩)⟩)⟩)⟩)⟩)⟩)⟩)⟩)⟩)⟩)⟩)⟩)⟩)⟩)⟩)⟩)⟩)⟩)⟩)⟩)⟩)⟩)⟩)⟩)⟩)⟩)⟩)⟩)⟩)⟩)⟩)⟩)⟩)⟩)⟩)⟩)⟩)⟩)⟩)⟩)⟩)⟩)⟩)⟩)⟩)⟩)⟩)⟩)⟩)⟩)⟩)⟩)⟩)⟩)⟩)⟩)⟩)⟩)⟩)⟩)⟩)⟩)⟩)⟩)⟩)⟩)⟩)⟩)⟩)⟩)⟩)⟩)⟩)⟩)⟩)⟩)⟩)⟩)⟩)⟩)⟩)⟩)⟩)⟩)⟩)⟩)⟩)⟩)⟩)⟩)⟩)⟩)⟩)⟩)⟩)⟩)⟩)⟩)⟩)⟩)⟩)⟩)⟩)⟩)⟩)⟩)⟩)⟩)⟩)⟩)⟩)⟩)⟩)⟩)⟩)⟩)⟩)⟩)⟩)⟩)⟩)⟩)⟩)⟩)⟩)⟩)⟩)⟩)
def dfind (b0 : Nat) : Option (Nat × Nat × (Nat → Nat → Option Instr)) := dT.find? (fun e => e.1 == b0)
/-- one walk over the bytes: each row's instruction stands there -/
def scan : List UInt8 → Nat → List (Nat × Instr) → Bool
  | _, _, [] => true
  | bs, p, (pc, .tableswitch _ _ _ _) :: rest => (match rest with
    | [] => p == pc
    | (q, i) :: r => p == pc && decide (p ≤ q) && scan (bs.drop (q - p)) q ((q, i) :: r))
  | bs, p, (pc, i) :: rest => p == pc && (match bs with
    | [] => false
    | b0 :: t0 => (match dfind b0.toNat with
      | none => false
      | some e => (match e.2.1, t0 with
        | 1, t => decide (e.2.2 0 0 = some i) && scan t (p + 1) rest
        | 2, b1 :: t => decide (e.2.2 b1.toNat 0 = some i) && scan t (p + 2) rest
        | 3, b1 :: b2 :: t => decide (e.2.2 b1.toNat b2.toNat = some i) && scan t (p + 3) rest
        | _, _ => false)))
theorem drop_at {α : Type} {l bs : List α} {p : Nat} {b : α} (h : l.drop p = b :: bs) : l[p]? = some b ∧ l.drop (p + 1) = bs := by
  have h1 : (l.drop p)[0]? = some b := by rw [h]; rfl
  rw [List.getElem?_drop] at h1
  refine ⟨by simpa using h1, ?_⟩
  have h2 : (l.drop p).drop 1 = bs := by rw [h]; rfl
  rw [List.drop_drop] at h2
  exact h2
theorem dfind_ok {b0 : Nat} {e : Nat × Nat × (Nat → Nat → Option Instr)} (h : dfind b0 = some e) : e.1 = b0 ∧ dG e := by
  unfold dfind at h
  exact ⟨by simpa using List.find?_some h, dT_ok _ (List.mem_of_find?_eq_some h)⟩
def notSw (i : Instr) : Prop := match i with
  | .tableswitch _ _ _ _ => False
  | _ => True
theorem scan_ok {code : ByteArray} : ∀ (l : List (Nat × Instr)) (bs : List UInt8) (p : Nat), code.data.toList.drop p = bs → scan bs p l = true → ∀ q ∈ l, notSw q.2 → DCc code q.1 q.2 := by
  intro l
  induction l with
  | nil => intro bs p _ _ q hq; cases hq
  | cons x rest ih =>
    intro bs p hb h
    obtain ⟨pc, i⟩ := x
    have key : (notSw i → DCc code pc i) ∧ ∀ q ∈ rest, notSw q.2 → DCc code q.1 q.2 := by
      unfold scan at h
      split at h
      · rename_i e; cases e
      · rename_i e1 e2 e3
        cases e3
        refine ⟨fun z => z.elim, ?_⟩
        split at h
        · intro q hq; cases hq
        · rename_i q2 i2 r
          simp only [Bool.and_eq_true, decide_eq_true_eq] at h
          refine ih _ q2 ?_ h.2
          rw [← hb, List.drop_drop]
          congr 1
          omega
      · rename_i e1 e2 e3
        cases e3
        simp only [Bool.and_eq_true, beq_iff_eq] at h
        obtain ⟨rfl, h⟩ := h
        split at h
        · cases h
        · rename_i b0 t0
          obtain ⟨g0, hb1⟩ := drop_at hb
          split at h
          · cases h
          · rename_i e he
            obtain ⟨he1, hG⟩ := dfind_ok he
            split at h
            · rename_i hk
              simp only [Bool.and_eq_true, decide_eq_true_eq] at h
              refine ⟨fun _ => hG code _ 0 0 i h.1 ⟨by rw [he1]; exact u1_at g0, fun z => ?_, fun z => ?_⟩, ih _ _ hb1 h.2⟩
              · rw [hk] at z; omega
              · rw [hk] at z; omega
            · rename_i b1 t hk
              simp only [Bool.and_eq_true, decide_eq_true_eq] at h
              obtain ⟨g1, hb2⟩ := drop_at hb1
              refine ⟨fun _ => hG code _ _ 0 i h.1 ⟨by rw [he1]; exact u1_at g0, fun z => u1_at g1, fun z => ?_⟩, ih _ _ hb2 h.2⟩
              rw [hk] at z; omega
            · rename_i b1 b2 t hk
              simp only [Bool.and_eq_true, decide_eq_true_eq] at h
              obtain ⟨g1, hb2⟩ := drop_at hb1
              obtain ⟨g2, hb3⟩ := drop_at hb2
              exact ⟨fun _ => hG code _ _ _ i h.1 ⟨by rw [he1]; exact u1_at g0, fun z => u1_at g1, fun z => u1_at g2⟩, ih _ _ hb3 h.2⟩
            · cases h
    intro q hq hn
    rcases List.mem_cons.mp hq with h1 | hq
    · subst h1
      exact key.1 hn
    · exact key.2 q hq hn
theorem datc {code : ByteArray} {l : List (Nat × Instr)} (h : scan code.data.toList 0 l = true) {k pc : Nat} {i : Instr} (hk : l[k]? = some (pc, i)) (hi : notSw i) : decode code pc = .ok (i, ilen i) := by
  have h1 := scan_ok (code := code) l code.data.toList 0 List.drop_zero h (pc, i) (List.mem_of_getElem? hk) hi
  exact h1
theorem dat {mi : Nat} {l : List (Nat × Instr)} (h : scan (mCd mi).data.toList 0 l = true) {k pc : Nat} {i : Instr} (hk : l[k]? = some (pc, i)) (hi : notSw i) : DC mi pc i := by
  unfold DC
  exact datc h hk hi
end
