-- ===== PART A: goes FIRST, ahead of the names: the tables' words, and 'selects' of the private methods out of them =====
/-- a private method of a class that the tables say can be made, by its rows of tables_1 -/
def lw_okq (q : MethodName × Nat) : Prop := (q.1.cls ≠ "java/lang/invoke/MethodHandle" ∧ q.1.cls ≠ "java/lang/invoke/VarHandle") ∧ Cond.instantiable q.1.cls q.2 ∈ tables_1 ∧ Cond.privateMethod q.1 ∈ tables_1 ∧ Cond.instanceMethod q.1 ∈ tables_1
theorem lw_p0 : lw_okq (⟨"KillFollows", "refuse", "(I)I"⟩, 11) := ⟨⟨by decide +kernel, by decide +kernel⟩, List.mem_of_getElem? (i := 26) (by decide +kernel), List.mem_of_getElem? (i := 375) (by decide +kernel), List.mem_of_getElem? (i := 376) (by decide +kernel)⟩
theorem lw_p1 : lw_okq (⟨"KillFollows$Reader", "readLineWord", "()I"⟩, 8) := ⟨⟨by decide +kernel, by decide +kernel⟩, List.mem_of_getElem? (i := 34) (by decide +kernel), List.mem_of_getElem? (i := 401) (by decide +kernel), List.mem_of_getElem? (i := 402) (by decide +kernel)⟩
theorem lw_p2 : lw_okq (⟨"KillFollows$Reader", "entryOfWord", "()I"⟩, 8) := ⟨⟨by decide +kernel, by decide +kernel⟩, List.mem_of_getElem? (i := 34) (by decide +kernel), List.mem_of_getElem? (i := 405) (by decide +kernel), List.mem_of_getElem? (i := 406) (by decide +kernel)⟩
theorem lw_p3 : lw_okq (⟨"KillFollows$Reader", "failed", "(I)I"⟩, 8) := ⟨⟨by decide +kernel, by decide +kernel⟩, List.mem_of_getElem? (i := 34) (by decide +kernel), List.mem_of_getElem? (i := 409) (by decide +kernel), List.mem_of_getElem? (i := 410) (by decide +kernel)⟩
theorem lw_p4 : lw_okq (⟨"KillFollows$Reader", "fail", "(I)Z"⟩, 8) := ⟨⟨by decide +kernel, by decide +kernel⟩, List.mem_of_getElem? (i := 34) (by decide +kernel), List.mem_of_getElem? (i := 413) (by decide +kernel), List.mem_of_getElem? (i := 414) (by decide +kernel)⟩
theorem lw_p5 : lw_okq (⟨"KillFollows$Reader", "readRest", "(I)Z"⟩, 8) := ⟨⟨by decide +kernel, by decide +kernel⟩, List.mem_of_getElem? (i := 34) (by decide +kernel), List.mem_of_getElem? (i := 420) (by decide +kernel), List.mem_of_getElem? (i := 421) (by decide +kernel)⟩
theorem lw_p6 : lw_okq (⟨"KillFollows$Reader", "readForest", "()Z"⟩, 8) := ⟨⟨by decide +kernel, by decide +kernel⟩, List.mem_of_getElem? (i := 34) (by decide +kernel), List.mem_of_getElem? (i := 424) (by decide +kernel), List.mem_of_getElem? (i := 425) (by decide +kernel)⟩
theorem lw_p7 : lw_okq (⟨"KillFollows$Reader", "readWord", "(Ljava/lang/String;)Z"⟩, 8) := ⟨⟨by decide +kernel, by decide +kernel⟩, List.mem_of_getElem? (i := 34) (by decide +kernel), List.mem_of_getElem? (i := 429) (by decide +kernel), List.mem_of_getElem? (i := 430) (by decide +kernel)⟩
theorem lw_p8 : lw_okq (⟨"KillFollows$Reader", "readWhole", "(I)I"⟩, 8) := ⟨⟨by decide +kernel, by decide +kernel⟩, List.mem_of_getElem? (i := 34) (by decide +kernel), List.mem_of_getElem? (i := 437) (by decide +kernel), List.mem_of_getElem? (i := 438) (by decide +kernel)⟩
theorem lw_p9 : lw_okq (⟨"KillFollows$Reader", "readPlace", "(I)Z"⟩, 8) := ⟨⟨by decide +kernel, by decide +kernel⟩, List.mem_of_getElem? (i := 34) (by decide +kernel), List.mem_of_getElem? (i := 444) (by decide +kernel), List.mem_of_getElem? (i := 445) (by decide +kernel)⟩
theorem lw_p10 : lw_okq (⟨"KillFollows$Reader", "readNewName", "(II)Z"⟩, 8) := ⟨⟨by decide +kernel, by decide +kernel⟩, List.mem_of_getElem? (i := 34) (by decide +kernel), List.mem_of_getElem? (i := 448) (by decide +kernel), List.mem_of_getElem? (i := 449) (by decide +kernel)⟩
theorem lw_p11 : lw_okq (⟨"KillFollows$Reader", "readPath", "()Z"⟩, 8) := ⟨⟨by decide +kernel, by decide +kernel⟩, List.mem_of_getElem? (i := 34) (by decide +kernel), List.mem_of_getElem? (i := 459) (by decide +kernel), List.mem_of_getElem? (i := 460) (by decide +kernel)⟩
theorem lw_p12 : lw_okq (⟨"KillFollows$Reader", "findName", "(I)I"⟩, 8) := ⟨⟨by decide +kernel, by decide +kernel⟩, List.mem_of_getElem? (i := 34) (by decide +kernel), List.mem_of_getElem? (i := 463) (by decide +kernel), List.mem_of_getElem? (i := 464) (by decide +kernel)⟩
theorem lw_p13 : lw_okq (⟨"KillFollows$Reader", "readMan", "(I)Z"⟩, 8) := ⟨⟨by decide +kernel, by decide +kernel⟩, List.mem_of_getElem? (i := 34) (by decide +kernel), List.mem_of_getElem? (i := 470) (by decide +kernel), List.mem_of_getElem? (i := 471) (by decide +kernel)⟩
theorem lw_p14 : lw_okq (⟨"KillFollows$Reader", "kindOfWord", "()I"⟩, 8) := ⟨⟨by decide +kernel, by decide +kernel⟩, List.mem_of_getElem? (i := 34) (by decide +kernel), List.mem_of_getElem? (i := 474) (by decide +kernel), List.mem_of_getElem? (i := 475) (by decide +kernel)⟩
theorem lw_p15 : lw_okq (⟨"KillFollows$Reader", "readKill", "(I)Z"⟩, 8) := ⟨⟨by decide +kernel, by decide +kernel⟩, List.mem_of_getElem? (i := 34) (by decide +kernel), List.mem_of_getElem? (i := 490) (by decide +kernel), List.mem_of_getElem? (i := 491) (by decide +kernel)⟩
def lw_privs_1 : List (MethodName × Nat) := [(⟨"KillFollows", "refuse", "(I)I"⟩, 11), (⟨"KillFollows$Reader", "readLineWord", "()I"⟩, 8), (⟨"KillFollows$Reader", "entryOfWord", "()I"⟩, 8), (⟨"KillFollows$Reader", "failed", "(I)I"⟩, 8), (⟨"KillFollows$Reader", "fail", "(I)Z"⟩, 8), (⟨"KillFollows$Reader", "readRest", "(I)Z"⟩, 8), (⟨"KillFollows$Reader", "readForest", "()Z"⟩, 8), (⟨"KillFollows$Reader", "readWord", "(Ljava/lang/String;)Z"⟩, 8), (⟨"KillFollows$Reader", "readWhole", "(I)I"⟩, 8), (⟨"KillFollows$Reader", "readPlace", "(I)Z"⟩, 8), (⟨"KillFollows$Reader", "readNewName", "(II)Z"⟩, 8), (⟨"KillFollows$Reader", "readPath", "()Z"⟩, 8), (⟨"KillFollows$Reader", "findName", "(I)I"⟩, 8), (⟨"KillFollows$Reader", "readMan", "(I)Z"⟩, 8), (⟨"KillFollows$Reader", "kindOfWord", "()I"⟩, 8), (⟨"KillFollows$Reader", "readKill", "(I)Z"⟩, 8)]
theorem lw_r1 : ∀ q ∈ lw_privs_1, lw_okq q := List.forall_mem_cons.mpr ⟨lw_p0, List.forall_mem_cons.mpr ⟨lw_p1, List.forall_mem_cons.mpr ⟨lw_p2, List.forall_mem_cons.mpr ⟨lw_p3, List.forall_mem_cons.mpr ⟨lw_p4, List.forall_mem_cons.mpr ⟨lw_p5, List.forall_mem_cons.mpr ⟨lw_p6, List.forall_mem_cons.mpr ⟨lw_p7, List.forall_mem_cons.mpr ⟨lw_p8, List.forall_mem_cons.mpr ⟨lw_p9, List.forall_mem_cons.mpr ⟨lw_p10, List.forall_mem_cons.mpr ⟨lw_p11, List.forall_mem_cons.mpr ⟨lw_p12, List.forall_mem_cons.mpr ⟨lw_p13, List.forall_mem_cons.mpr ⟨lw_p14, List.forall_mem_cons.mpr ⟨lw_p15, fun _ h => absurd h List.not_mem_nil⟩⟩⟩⟩⟩⟩⟩⟩⟩⟩⟩⟩⟩⟩⟩⟩
theorem lw_p16 : lw_okq (⟨"KillFollows$Reader", "readStray", "(I)Z"⟩, 8) := ⟨⟨by decide +kernel, by decide +kernel⟩, List.mem_of_getElem? (i := 34) (by decide +kernel), List.mem_of_getElem? (i := 497) (by decide +kernel), List.mem_of_getElem? (i := 498) (by decide +kernel)⟩
theorem lw_p17 : lw_okq (⟨"KillFollows$Reader", "readWalk", "()Z"⟩, 8) := ⟨⟨by decide +kernel, by decide +kernel⟩, List.mem_of_getElem? (i := 34) (by decide +kernel), List.mem_of_getElem? (i := 501) (by decide +kernel), List.mem_of_getElem? (i := 502) (by decide +kernel)⟩
theorem lw_p18 : lw_okq (⟨"KillFollows$Reader", "readTaken", "()Z"⟩, 8) := ⟨⟨by decide +kernel, by decide +kernel⟩, List.mem_of_getElem? (i := 34) (by decide +kernel), List.mem_of_getElem? (i := 517) (by decide +kernel), List.mem_of_getElem? (i := 518) (by decide +kernel)⟩
theorem lw_p19 : lw_okq (⟨"KillFollows", "places", "()I"⟩, 11) := ⟨⟨by decide +kernel, by decide +kernel⟩, List.mem_of_getElem? (i := 26) (by decide +kernel), List.mem_of_getElem? (i := 536) (by decide +kernel), List.mem_of_getElem? (i := 537) (by decide +kernel)⟩
theorem lw_p20 : lw_okq (⟨"KillFollows", "answer", "(I)I"⟩, 11) := ⟨⟨by decide +kernel, by decide +kernel⟩, List.mem_of_getElem? (i := 26) (by decide +kernel), List.mem_of_getElem? (i := 540) (by decide +kernel), List.mem_of_getElem? (i := 541) (by decide +kernel)⟩
theorem lw_p21 : lw_okq (⟨"KillFollows", "isPlace", "(I)Z"⟩, 11) := ⟨⟨by decide +kernel, by decide +kernel⟩, List.mem_of_getElem? (i := 26) (by decide +kernel), List.mem_of_getElem? (i := 556) (by decide +kernel), List.mem_of_getElem? (i := 557) (by decide +kernel)⟩
theorem lw_p22 : lw_okq (⟨"KillFollows$Scene", "killsWithin", "(I)I"⟩, 5) := ⟨⟨by decide +kernel, by decide +kernel⟩, List.mem_of_getElem? (i := 77) (by decide +kernel), List.mem_of_getElem? (i := 574) (by decide +kernel), List.mem_of_getElem? (i := 575) (by decide +kernel)⟩
theorem lw_p23 : lw_okq (⟨"KillFollows$Scene", "roomAt", "(I)I"⟩, 5) := ⟨⟨by decide +kernel, by decide +kernel⟩, List.mem_of_getElem? (i := 77) (by decide +kernel), List.mem_of_getElem? (i := 598) (by decide +kernel), List.mem_of_getElem? (i := 599) (by decide +kernel)⟩
theorem lw_p24 : lw_okq (⟨"KillFollows", "isMan", "(I)Z"⟩, 11) := ⟨⟨by decide +kernel, by decide +kernel⟩, List.mem_of_getElem? (i := 26) (by decide +kernel), List.mem_of_getElem? (i := 612) (by decide +kernel), List.mem_of_getElem? (i := 613) (by decide +kernel)⟩
theorem lw_p25 : lw_okq (⟨"KillFollows", "men", "()I"⟩, 11) := ⟨⟨by decide +kernel, by decide +kernel⟩, List.mem_of_getElem? (i := 26) (by decide +kernel), List.mem_of_getElem? (i := 616) (by decide +kernel), List.mem_of_getElem? (i := 617) (by decide +kernel)⟩
theorem lw_p26 : lw_okq (⟨"KillFollows", "isKill", "(I)Z"⟩, 11) := ⟨⟨by decide +kernel, by decide +kernel⟩, List.mem_of_getElem? (i := 26) (by decide +kernel), List.mem_of_getElem? (i := 638) (by decide +kernel), List.mem_of_getElem? (i := 639) (by decide +kernel)⟩
theorem lw_p27 : lw_okq (⟨"KillFollows", "kills", "()I"⟩, 11) := ⟨⟨by decide +kernel, by decide +kernel⟩, List.mem_of_getElem? (i := 26) (by decide +kernel), List.mem_of_getElem? (i := 642) (by decide +kernel), List.mem_of_getElem? (i := 643) (by decide +kernel)⟩
theorem lw_p28 : lw_okq (⟨"KillFollows", "isForest", "()Z"⟩, 11) := ⟨⟨by decide +kernel, by decide +kernel⟩, List.mem_of_getElem? (i := 26) (by decide +kernel), List.mem_of_getElem? (i := 657) (by decide +kernel), List.mem_of_getElem? (i := 658) (by decide +kernel)⟩
theorem lw_p29 : lw_okq (⟨"KillFollows", "isRow", "(II)Z"⟩, 11) := ⟨⟨by decide +kernel, by decide +kernel⟩, List.mem_of_getElem? (i := 26) (by decide +kernel), List.mem_of_getElem? (i := 762) (by decide +kernel), List.mem_of_getElem? (i := 763) (by decide +kernel)⟩
theorem lw_p30 : lw_okq (⟨"KillFollows$Trial", "goal", "(II)I"⟩, 3) := ⟨⟨by decide +kernel, by decide +kernel⟩, List.mem_of_getElem? (i := 269) (by decide +kernel), List.mem_of_getElem? (i := 778) (by decide +kernel), List.mem_of_getElem? (i := 779) (by decide +kernel)⟩
theorem lw_p31 : lw_okq (⟨"KillFollows$Trial", "findsRow", "(III)Z"⟩, 3) := ⟨⟨by decide +kernel, by decide +kernel⟩, List.mem_of_getElem? (i := 269) (by decide +kernel), List.mem_of_getElem? (i := 796) (by decide +kernel), List.mem_of_getElem? (i := 797) (by decide +kernel)⟩
def lw_privs_2 : List (MethodName × Nat) := [(⟨"KillFollows$Reader", "readStray", "(I)Z"⟩, 8), (⟨"KillFollows$Reader", "readWalk", "()Z"⟩, 8), (⟨"KillFollows$Reader", "readTaken", "()Z"⟩, 8), (⟨"KillFollows", "places", "()I"⟩, 11), (⟨"KillFollows", "answer", "(I)I"⟩, 11), (⟨"KillFollows", "isPlace", "(I)Z"⟩, 11), (⟨"KillFollows$Scene", "killsWithin", "(I)I"⟩, 5), (⟨"KillFollows$Scene", "roomAt", "(I)I"⟩, 5), (⟨"KillFollows", "isMan", "(I)Z"⟩, 11), (⟨"KillFollows", "men", "()I"⟩, 11), (⟨"KillFollows", "isKill", "(I)Z"⟩, 11), (⟨"KillFollows", "kills", "()I"⟩, 11), (⟨"KillFollows", "isForest", "()Z"⟩, 11), (⟨"KillFollows", "isRow", "(II)Z"⟩, 11), (⟨"KillFollows$Trial", "goal", "(II)I"⟩, 3), (⟨"KillFollows$Trial", "findsRow", "(III)Z"⟩, 3)]
theorem lw_r2 : ∀ q ∈ lw_privs_2, lw_okq q := List.forall_mem_cons.mpr ⟨lw_p16, List.forall_mem_cons.mpr ⟨lw_p17, List.forall_mem_cons.mpr ⟨lw_p18, List.forall_mem_cons.mpr ⟨lw_p19, List.forall_mem_cons.mpr ⟨lw_p20, List.forall_mem_cons.mpr ⟨lw_p21, List.forall_mem_cons.mpr ⟨lw_p22, List.forall_mem_cons.mpr ⟨lw_p23, List.forall_mem_cons.mpr ⟨lw_p24, List.forall_mem_cons.mpr ⟨lw_p25, List.forall_mem_cons.mpr ⟨lw_p26, List.forall_mem_cons.mpr ⟨lw_p27, List.forall_mem_cons.mpr ⟨lw_p28, List.forall_mem_cons.mpr ⟨lw_p29, List.forall_mem_cons.mpr ⟨lw_p30, List.forall_mem_cons.mpr ⟨lw_p31, fun _ h => absurd h List.not_mem_nil⟩⟩⟩⟩⟩⟩⟩⟩⟩⟩⟩⟩⟩⟩⟩⟩
theorem lw_p32 : lw_okq (⟨"KillFollows$Trial", "isStep", "(II)Z"⟩, 3) := ⟨⟨by decide +kernel, by decide +kernel⟩, List.mem_of_getElem? (i := 269) (by decide +kernel), List.mem_of_getElem? (i := 802) (by decide +kernel), List.mem_of_getElem? (i := 803) (by decide +kernel)⟩
theorem lw_p33 : lw_okq (⟨"KillFollows$Trial", "placesLured", "(II)I"⟩, 3) := ⟨⟨by decide +kernel, by decide +kernel⟩, List.mem_of_getElem? (i := 269) (by decide +kernel), List.mem_of_getElem? (i := 819) (by decide +kernel), List.mem_of_getElem? (i := 820) (by decide +kernel)⟩
theorem lw_p34 : lw_okq (⟨"KillFollows$Company", "isCompany", "(LKillFollows$Scene;I)Z"⟩, 1) := ⟨⟨by decide +kernel, by decide +kernel⟩, List.mem_of_getElem? (i := 291) (by decide +kernel), List.mem_of_getElem? (i := 843) (by decide +kernel), List.mem_of_getElem? (i := 844) (by decide +kernel)⟩
theorem lw_p35 : lw_okq (⟨"KillFollows", "isStray", "(I)Z"⟩, 11) := ⟨⟨by decide +kernel, by decide +kernel⟩, List.mem_of_getElem? (i := 26) (by decide +kernel), List.mem_of_getElem? (i := 908) (by decide +kernel), List.mem_of_getElem? (i := 909) (by decide +kernel)⟩
theorem lw_p36 : lw_okq (⟨"KillFollows", "refusesWorth", "(I)Z"⟩, 11) := ⟨⟨by decide +kernel, by decide +kernel⟩, List.mem_of_getElem? (i := 26) (by decide +kernel), List.mem_of_getElem? (i := 962) (by decide +kernel), List.mem_of_getElem? (i := 963) (by decide +kernel)⟩
theorem lw_p37 : lw_okq (⟨"KillFollows$Trial", "rambleOnce", "()V"⟩, 3) := ⟨⟨by decide +kernel, by decide +kernel⟩, List.mem_of_getElem? (i := 269) (by decide +kernel), List.mem_of_getElem? (i := 1030) (by decide +kernel), List.mem_of_getElem? (i := 1031) (by decide +kernel)⟩
theorem lw_p38 : lw_okq (⟨"KillFollows", "settle", "(I)Z"⟩, 11) := ⟨⟨by decide +kernel, by decide +kernel⟩, List.mem_of_getElem? (i := 26) (by decide +kernel), List.mem_of_getElem? (i := 1079) (by decide +kernel), List.mem_of_getElem? (i := 1080) (by decide +kernel)⟩
theorem lw_p39 : lw_okq (⟨"java/lang/Throwable", "fillInStackTrace", "(I)Ljava/lang/Throwable;"⟩, 6) := ⟨⟨by decide +kernel, by decide +kernel⟩, List.mem_of_getElem? (i := 1158) (by decide +kernel), List.mem_of_getElem? (i := 1156) (by decide +kernel), List.mem_of_getElem? (i := 1157) (by decide +kernel)⟩
theorem lw_p40 : lw_okq (⟨"KillFollowsModel", "good", "()V"⟩, 33) := ⟨⟨by decide +kernel, by decide +kernel⟩, List.mem_of_getElem? (i := 1187) (by decide +kernel), List.mem_of_getElem? (i := 1305) (by decide +kernel), List.mem_of_getElem? (i := 1306) (by decide +kernel)⟩
theorem lw_p41 : lw_okq (⟨"KillFollowsModel", "no", "(I)I"⟩, 33) := ⟨⟨by decide +kernel, by decide +kernel⟩, List.mem_of_getElem? (i := 1187) (by decide +kernel), List.mem_of_getElem? (i := 1312) (by decide +kernel), List.mem_of_getElem? (i := 1313) (by decide +kernel)⟩
theorem lw_p42 : lw_okq (⟨"KillFollowsModel", "goOn", "()V"⟩, 33) := ⟨⟨by decide +kernel, by decide +kernel⟩, List.mem_of_getElem? (i := 1187) (by decide +kernel), List.mem_of_getElem? (i := 1316) (by decide +kernel), List.mem_of_getElem? (i := 1317) (by decide +kernel)⟩
theorem lw_p43 : lw_okq (⟨"KillFollowsModel", "see", "(I)I"⟩, 33) := ⟨⟨by decide +kernel, by decide +kernel⟩, List.mem_of_getElem? (i := 1187) (by decide +kernel), List.mem_of_getElem? (i := 1320) (by decide +kernel), List.mem_of_getElem? (i := 1321) (by decide +kernel)⟩
theorem lw_p44 : lw_okq (⟨"KillFollowsModel", "readLine", "()V"⟩, 33) := ⟨⟨by decide +kernel, by decide +kernel⟩, List.mem_of_getElem? (i := 1187) (by decide +kernel), List.mem_of_getElem? (i := 1330) (by decide +kernel), List.mem_of_getElem? (i := 1331) (by decide +kernel)⟩
theorem lw_p45 : lw_okq (⟨"KillFollowsModel", "isWord", "(Ljava/lang/String;)Z"⟩, 33) := ⟨⟨by decide +kernel, by decide +kernel⟩, List.mem_of_getElem? (i := 1187) (by decide +kernel), List.mem_of_getElem? (i := 1335) (by decide +kernel), List.mem_of_getElem? (i := 1336) (by decide +kernel)⟩
theorem lw_p46 : lw_okq (⟨"KillFollowsModel", "forestLine", "()V"⟩, 33) := ⟨⟨by decide +kernel, by decide +kernel⟩, List.mem_of_getElem? (i := 1187) (by decide +kernel), List.mem_of_getElem? (i := 1341) (by decide +kernel), List.mem_of_getElem? (i := 1342) (by decide +kernel)⟩
theorem lw_p47 : lw_okq (⟨"KillFollowsModel", "wrong", "(II)V"⟩, 33) := ⟨⟨by decide +kernel, by decide +kernel⟩, List.mem_of_getElem? (i := 1187) (by decide +kernel), List.mem_of_getElem? (i := 1345) (by decide +kernel), List.mem_of_getElem? (i := 1346) (by decide +kernel)⟩
def lw_privs_3 : List (MethodName × Nat) := [(⟨"KillFollows$Trial", "isStep", "(II)Z"⟩, 3), (⟨"KillFollows$Trial", "placesLured", "(II)I"⟩, 3), (⟨"KillFollows$Company", "isCompany", "(LKillFollows$Scene;I)Z"⟩, 1), (⟨"KillFollows", "isStray", "(I)Z"⟩, 11), (⟨"KillFollows", "refusesWorth", "(I)Z"⟩, 11), (⟨"KillFollows$Trial", "rambleOnce", "()V"⟩, 3), (⟨"KillFollows", "settle", "(I)Z"⟩, 11), (⟨"java/lang/Throwable", "fillInStackTrace", "(I)Ljava/lang/Throwable;"⟩, 6), (⟨"KillFollowsModel", "good", "()V"⟩, 33), (⟨"KillFollowsModel", "no", "(I)I"⟩, 33), (⟨"KillFollowsModel", "goOn", "()V"⟩, 33), (⟨"KillFollowsModel", "see", "(I)I"⟩, 33), (⟨"KillFollowsModel", "readLine", "()V"⟩, 33), (⟨"KillFollowsModel", "isWord", "(Ljava/lang/String;)Z"⟩, 33), (⟨"KillFollowsModel", "forestLine", "()V"⟩, 33), (⟨"KillFollowsModel", "wrong", "(II)V"⟩, 33)]
theorem lw_r3 : ∀ q ∈ lw_privs_3, lw_okq q := List.forall_mem_cons.mpr ⟨lw_p32, List.forall_mem_cons.mpr ⟨lw_p33, List.forall_mem_cons.mpr ⟨lw_p34, List.forall_mem_cons.mpr ⟨lw_p35, List.forall_mem_cons.mpr ⟨lw_p36, List.forall_mem_cons.mpr ⟨lw_p37, List.forall_mem_cons.mpr ⟨lw_p38, List.forall_mem_cons.mpr ⟨lw_p39, List.forall_mem_cons.mpr ⟨lw_p40, List.forall_mem_cons.mpr ⟨lw_p41, List.forall_mem_cons.mpr ⟨lw_p42, List.forall_mem_cons.mpr ⟨lw_p43, List.forall_mem_cons.mpr ⟨lw_p44, List.forall_mem_cons.mpr ⟨lw_p45, List.forall_mem_cons.mpr ⟨lw_p46, List.forall_mem_cons.mpr ⟨lw_p47, fun _ h => absurd h List.not_mem_nil⟩⟩⟩⟩⟩⟩⟩⟩⟩⟩⟩⟩⟩⟩⟩⟩
theorem lw_p48 : lw_okq (⟨"KillFollowsModel", "after", "(Ljava/lang/String;II)I"⟩, 33) := ⟨⟨by decide +kernel, by decide +kernel⟩, List.mem_of_getElem? (i := 1187) (by decide +kernel), List.mem_of_getElem? (i := 1350) (by decide +kernel), List.mem_of_getElem? (i := 1351) (by decide +kernel)⟩
theorem lw_p49 : lw_okq (⟨"KillFollowsModel", "must", "(Ljava/lang/String;)V"⟩, 33) := ⟨⟨by decide +kernel, by decide +kernel⟩, List.mem_of_getElem? (i := 1187) (by decide +kernel), List.mem_of_getElem? (i := 1354) (by decide +kernel), List.mem_of_getElem? (i := 1355) (by decide +kernel)⟩
theorem lw_p50 : lw_okq (⟨"KillFollowsModel", "takesWord", "(Ljava/lang/String;)Z"⟩, 33) := ⟨⟨by decide +kernel, by decide +kernel⟩, List.mem_of_getElem? (i := 1187) (by decide +kernel), List.mem_of_getElem? (i := 1358) (by decide +kernel), List.mem_of_getElem? (i := 1359) (by decide +kernel)⟩
theorem lw_p51 : lw_okq (⟨"KillFollowsModel", "begins", "(Ljava/lang/String;Z)Z"⟩, 33) := ⟨⟨by decide +kernel, by decide +kernel⟩, List.mem_of_getElem? (i := 1187) (by decide +kernel), List.mem_of_getElem? (i := 1363) (by decide +kernel), List.mem_of_getElem? (i := 1364) (by decide +kernel)⟩
theorem lw_p52 : lw_okq (⟨"KillFollowsModel", "pass", "()V"⟩, 33) := ⟨⟨by decide +kernel, by decide +kernel⟩, List.mem_of_getElem? (i := 1187) (by decide +kernel), List.mem_of_getElem? (i := 1367) (by decide +kernel), List.mem_of_getElem? (i := 1368) (by decide +kernel)⟩
theorem lw_p53 : lw_okq (⟨"KillFollowsModel", "placeLine", "()V"⟩, 33) := ⟨⟨by decide +kernel, by decide +kernel⟩, List.mem_of_getElem? (i := 1187) (by decide +kernel), List.mem_of_getElem? (i := 1371) (by decide +kernel), List.mem_of_getElem? (i := 1372) (by decide +kernel)⟩
theorem lw_p54 : lw_okq (⟨"KillFollowsModel", "newName", "(I)V"⟩, 33) := ⟨⟨by decide +kernel, by decide +kernel⟩, List.mem_of_getElem? (i := 1187) (by decide +kernel), List.mem_of_getElem? (i := 1375) (by decide +kernel), List.mem_of_getElem? (i := 1376) (by decide +kernel)⟩
theorem lw_p55 : lw_okq (⟨"KillFollowsModel", "mustName", "()V"⟩, 33) := ⟨⟨by decide +kernel, by decide +kernel⟩, List.mem_of_getElem? (i := 1187) (by decide +kernel), List.mem_of_getElem? (i := 1379) (by decide +kernel), List.mem_of_getElem? (i := 1380) (by decide +kernel)⟩
theorem lw_p56 : lw_okq (⟨"KillFollowsModel", "find", "()I"⟩, 33) := ⟨⟨by decide +kernel, by decide +kernel⟩, List.mem_of_getElem? (i := 1187) (by decide +kernel), List.mem_of_getElem? (i := 1389) (by decide +kernel), List.mem_of_getElem? (i := 1390) (by decide +kernel)⟩
theorem lw_p57 : lw_okq (⟨"KillFollowsModel", "pathLine", "()V"⟩, 33) := ⟨⟨by decide +kernel, by decide +kernel⟩, List.mem_of_getElem? (i := 1187) (by decide +kernel), List.mem_of_getElem? (i := 1396) (by decide +kernel), List.mem_of_getElem? (i := 1397) (by decide +kernel)⟩
theorem lw_p58 : lw_okq (⟨"KillFollowsModel", "placePassed", "()I"⟩, 33) := ⟨⟨by decide +kernel, by decide +kernel⟩, List.mem_of_getElem? (i := 1187) (by decide +kernel), List.mem_of_getElem? (i := 1400) (by decide +kernel), List.mem_of_getElem? (i := 1401) (by decide +kernel)⟩
theorem lw_p59 : lw_okq (⟨"KillFollowsModel", "placeHere", "()I"⟩, 33) := ⟨⟨by decide +kernel, by decide +kernel⟩, List.mem_of_getElem? (i := 1187) (by decide +kernel), List.mem_of_getElem? (i := 1404) (by decide +kernel), List.mem_of_getElem? (i := 1405) (by decide +kernel)⟩
theorem lw_p60 : lw_okq (⟨"KillFollowsModel", "named", "(II)I"⟩, 33) := ⟨⟨by decide +kernel, by decide +kernel⟩, List.mem_of_getElem? (i := 1187) (by decide +kernel), List.mem_of_getElem? (i := 1408) (by decide +kernel), List.mem_of_getElem? (i := 1409) (by decide +kernel)⟩
theorem lw_p61 : lw_okq (⟨"KillFollowsModel", "manLine", "()V"⟩, 33) := ⟨⟨by decide +kernel, by decide +kernel⟩, List.mem_of_getElem? (i := 1187) (by decide +kernel), List.mem_of_getElem? (i := 1415) (by decide +kernel), List.mem_of_getElem? (i := 1416) (by decide +kernel)⟩
theorem lw_p62 : lw_okq (⟨"KillFollowsModel", "walkLine", "()V"⟩, 33) := ⟨⟨by decide +kernel, by decide +kernel⟩, List.mem_of_getElem? (i := 1187) (by decide +kernel), List.mem_of_getElem? (i := 1424) (by decide +kernel), List.mem_of_getElem? (i := 1425) (by decide +kernel)⟩
theorem lw_p63 : lw_okq (⟨"KillFollowsModel", "manPassed", "()I"⟩, 33) := ⟨⟨by decide +kernel, by decide +kernel⟩, List.mem_of_getElem? (i := 1187) (by decide +kernel), List.mem_of_getElem? (i := 1428) (by decide +kernel), List.mem_of_getElem? (i := 1429) (by decide +kernel)⟩
def lw_privs_4 : List (MethodName × Nat) := [(⟨"KillFollowsModel", "after", "(Ljava/lang/String;II)I"⟩, 33), (⟨"KillFollowsModel", "must", "(Ljava/lang/String;)V"⟩, 33), (⟨"KillFollowsModel", "takesWord", "(Ljava/lang/String;)Z"⟩, 33), (⟨"KillFollowsModel", "begins", "(Ljava/lang/String;Z)Z"⟩, 33), (⟨"KillFollowsModel", "pass", "()V"⟩, 33), (⟨"KillFollowsModel", "placeLine", "()V"⟩, 33), (⟨"KillFollowsModel", "newName", "(I)V"⟩, 33), (⟨"KillFollowsModel", "mustName", "()V"⟩, 33), (⟨"KillFollowsModel", "find", "()I"⟩, 33), (⟨"KillFollowsModel", "pathLine", "()V"⟩, 33), (⟨"KillFollowsModel", "placePassed", "()I"⟩, 33), (⟨"KillFollowsModel", "placeHere", "()I"⟩, 33), (⟨"KillFollowsModel", "named", "(II)I"⟩, 33), (⟨"KillFollowsModel", "manLine", "()V"⟩, 33), (⟨"KillFollowsModel", "walkLine", "()V"⟩, 33), (⟨"KillFollowsModel", "manPassed", "()I"⟩, 33)]
theorem lw_r4 : ∀ q ∈ lw_privs_4, lw_okq q := List.forall_mem_cons.mpr ⟨lw_p48, List.forall_mem_cons.mpr ⟨lw_p49, List.forall_mem_cons.mpr ⟨lw_p50, List.forall_mem_cons.mpr ⟨lw_p51, List.forall_mem_cons.mpr ⟨lw_p52, List.forall_mem_cons.mpr ⟨lw_p53, List.forall_mem_cons.mpr ⟨lw_p54, List.forall_mem_cons.mpr ⟨lw_p55, List.forall_mem_cons.mpr ⟨lw_p56, List.forall_mem_cons.mpr ⟨lw_p57, List.forall_mem_cons.mpr ⟨lw_p58, List.forall_mem_cons.mpr ⟨lw_p59, List.forall_mem_cons.mpr ⟨lw_p60, List.forall_mem_cons.mpr ⟨lw_p61, List.forall_mem_cons.mpr ⟨lw_p62, List.forall_mem_cons.mpr ⟨lw_p63, fun _ h => absurd h List.not_mem_nil⟩⟩⟩⟩⟩⟩⟩⟩⟩⟩⟩⟩⟩⟩⟩⟩
theorem lw_p64 : lw_okq (⟨"KillFollowsModel", "manHere", "()I"⟩, 33) := ⟨⟨by decide +kernel, by decide +kernel⟩, List.mem_of_getElem? (i := 1187) (by decide +kernel), List.mem_of_getElem? (i := 1432) (by decide +kernel), List.mem_of_getElem? (i := 1433) (by decide +kernel)⟩
theorem lw_p65 : lw_okq (⟨"KillFollowsModel", "killLine", "()V"⟩, 33) := ⟨⟨by decide +kernel, by decide +kernel⟩, List.mem_of_getElem? (i := 1187) (by decide +kernel), List.mem_of_getElem? (i := 1439) (by decide +kernel), List.mem_of_getElem? (i := 1440) (by decide +kernel)⟩
theorem lw_p66 : lw_okq (⟨"KillFollowsModel", "takenLine", "()V"⟩, 33) := ⟨⟨by decide +kernel, by decide +kernel⟩, List.mem_of_getElem? (i := 1187) (by decide +kernel), List.mem_of_getElem? (i := 1446) (by decide +kernel), List.mem_of_getElem? (i := 1447) (by decide +kernel)⟩
theorem lw_p67 : lw_okq (⟨"KillFollowsModel", "strayLine", "()V"⟩, 33) := ⟨⟨by decide +kernel, by decide +kernel⟩, List.mem_of_getElem? (i := 1187) (by decide +kernel), List.mem_of_getElem? (i := 1450) (by decide +kernel), List.mem_of_getElem? (i := 1451) (by decide +kernel)⟩
theorem lw_p68 : lw_okq (⟨"KillFollowsModel", "isPlace", "(I)Z"⟩, 33) := ⟨⟨by decide +kernel, by decide +kernel⟩, List.mem_of_getElem? (i := 1187) (by decide +kernel), List.mem_of_getElem? (i := 1469) (by decide +kernel), List.mem_of_getElem? (i := 1470) (by decide +kernel)⟩
theorem lw_p69 : lw_okq (⟨"KillFollowsModel", "menAt", "(I)I"⟩, 33) := ⟨⟨by decide +kernel, by decide +kernel⟩, List.mem_of_getElem? (i := 1187) (by decide +kernel), List.mem_of_getElem? (i := 1473) (by decide +kernel), List.mem_of_getElem? (i := 1474) (by decide +kernel)⟩
theorem lw_p70 : lw_okq (⟨"KillFollowsModel", "killsAt", "(I)I"⟩, 33) := ⟨⟨by decide +kernel, by decide +kernel⟩, List.mem_of_getElem? (i := 1187) (by decide +kernel), List.mem_of_getElem? (i := 1477) (by decide +kernel), List.mem_of_getElem? (i := 1478) (by decide +kernel)⟩
theorem lw_p71 : lw_okq (⟨"KillFollowsModel", "standsOf", "([II)I"⟩, 33) := ⟨⟨by decide +kernel, by decide +kernel⟩, List.mem_of_getElem? (i := 1187) (by decide +kernel), List.mem_of_getElem? (i := 1481) (by decide +kernel), List.mem_of_getElem? (i := 1482) (by decide +kernel)⟩
theorem lw_p72 : lw_okq (⟨"KillFollowsModel", "behindOf", "(II)I"⟩, 33) := ⟨⟨by decide +kernel, by decide +kernel⟩, List.mem_of_getElem? (i := 1187) (by decide +kernel), List.mem_of_getElem? (i := 1485) (by decide +kernel), List.mem_of_getElem? (i := 1486) (by decide +kernel)⟩
theorem lw_p73 : lw_okq (⟨"KillFollowsModel", "isCrowded", "(I)Z"⟩, 33) := ⟨⟨by decide +kernel, by decide +kernel⟩, List.mem_of_getElem? (i := 1187) (by decide +kernel), List.mem_of_getElem? (i := 1492) (by decide +kernel), List.mem_of_getElem? (i := 1493) (by decide +kernel)⟩
theorem lw_p74 : lw_okq (⟨"KillFollowsModel", "isMan", "(I)Z"⟩, 33) := ⟨⟨by decide +kernel, by decide +kernel⟩, List.mem_of_getElem? (i := 1187) (by decide +kernel), List.mem_of_getElem? (i := 1503) (by decide +kernel), List.mem_of_getElem? (i := 1504) (by decide +kernel)⟩
theorem lw_p75 : lw_okq (⟨"KillFollowsModel", "followersOf", "(I)I"⟩, 33) := ⟨⟨by decide +kernel, by decide +kernel⟩, List.mem_of_getElem? (i := 1187) (by decide +kernel), List.mem_of_getElem? (i := 1507) (by decide +kernel), List.mem_of_getElem? (i := 1508) (by decide +kernel)⟩
theorem lw_p76 : lw_okq (⟨"KillFollowsModel", "worthOf", "(I)I"⟩, 33) := ⟨⟨by decide +kernel, by decide +kernel⟩, List.mem_of_getElem? (i := 1187) (by decide +kernel), List.mem_of_getElem? (i := 1511) (by decide +kernel), List.mem_of_getElem? (i := 1512) (by decide +kernel)⟩
theorem lw_p77 : lw_okq (⟨"KillFollowsModel", "shotBy", "(I)I"⟩, 33) := ⟨⟨by decide +kernel, by decide +kernel⟩, List.mem_of_getElem? (i := 1187) (by decide +kernel), List.mem_of_getElem? (i := 1515) (by decide +kernel), List.mem_of_getElem? (i := 1516) (by decide +kernel)⟩
theorem lw_p78 : lw_okq (⟨"KillFollowsModel", "isKill", "(I)Z"⟩, 33) := ⟨⟨by decide +kernel, by decide +kernel⟩, List.mem_of_getElem? (i := 1187) (by decide +kernel), List.mem_of_getElem? (i := 1523) (by decide +kernel), List.mem_of_getElem? (i := 1524) (by decide +kernel)⟩
theorem lw_p79 : lw_okq (⟨"KillFollowsModel", "why", "(ZZ)I"⟩, 33) := ⟨⟨by decide +kernel, by decide +kernel⟩, List.mem_of_getElem? (i := 1187) (by decide +kernel), List.mem_of_getElem? (i := 1531) (by decide +kernel), List.mem_of_getElem? (i := 1532) (by decide +kernel)⟩
def lw_privs_5 : List (MethodName × Nat) := [(⟨"KillFollowsModel", "manHere", "()I"⟩, 33), (⟨"KillFollowsModel", "killLine", "()V"⟩, 33), (⟨"KillFollowsModel", "takenLine", "()V"⟩, 33), (⟨"KillFollowsModel", "strayLine", "()V"⟩, 33), (⟨"KillFollowsModel", "isPlace", "(I)Z"⟩, 33), (⟨"KillFollowsModel", "menAt", "(I)I"⟩, 33), (⟨"KillFollowsModel", "killsAt", "(I)I"⟩, 33), (⟨"KillFollowsModel", "standsOf", "([II)I"⟩, 33), (⟨"KillFollowsModel", "behindOf", "(II)I"⟩, 33), (⟨"KillFollowsModel", "isCrowded", "(I)Z"⟩, 33), (⟨"KillFollowsModel", "isMan", "(I)Z"⟩, 33), (⟨"KillFollowsModel", "followersOf", "(I)I"⟩, 33), (⟨"KillFollowsModel", "worthOf", "(I)I"⟩, 33), (⟨"KillFollowsModel", "shotBy", "(I)I"⟩, 33), (⟨"KillFollowsModel", "isKill", "(I)Z"⟩, 33), (⟨"KillFollowsModel", "why", "(ZZ)I"⟩, 33)]
theorem lw_r5 : ∀ q ∈ lw_privs_5, lw_okq q := List.forall_mem_cons.mpr ⟨lw_p64, List.forall_mem_cons.mpr ⟨lw_p65, List.forall_mem_cons.mpr ⟨lw_p66, List.forall_mem_cons.mpr ⟨lw_p67, List.forall_mem_cons.mpr ⟨lw_p68, List.forall_mem_cons.mpr ⟨lw_p69, List.forall_mem_cons.mpr ⟨lw_p70, List.forall_mem_cons.mpr ⟨lw_p71, List.forall_mem_cons.mpr ⟨lw_p72, List.forall_mem_cons.mpr ⟨lw_p73, List.forall_mem_cons.mpr ⟨lw_p74, List.forall_mem_cons.mpr ⟨lw_p75, List.forall_mem_cons.mpr ⟨lw_p76, List.forall_mem_cons.mpr ⟨lw_p77, List.forall_mem_cons.mpr ⟨lw_p78, List.forall_mem_cons.mpr ⟨lw_p79, fun _ h => absurd h List.not_mem_nil⟩⟩⟩⟩⟩⟩⟩⟩⟩⟩⟩⟩⟩⟩⟩⟩
theorem lw_p80 : lw_okq (⟨"KillFollowsModel", "stepsTo", "(III)I"⟩, 33) := ⟨⟨by decide +kernel, by decide +kernel⟩, List.mem_of_getElem? (i := 1187) (by decide +kernel), List.mem_of_getElem? (i := 1555) (by decide +kernel), List.mem_of_getElem? (i := 1556) (by decide +kernel)⟩
theorem lw_p81 : lw_okq (⟨"KillFollowsModel", "spread", "(II)I"⟩, 33) := ⟨⟨by decide +kernel, by decide +kernel⟩, List.mem_of_getElem? (i := 1187) (by decide +kernel), List.mem_of_getElem? (i := 1559) (by decide +kernel), List.mem_of_getElem? (i := 1560) (by decide +kernel)⟩
theorem lw_p82 : lw_okq (⟨"KillFollowsModel", "seenBy", "(I)I"⟩, 33) := ⟨⟨by decide +kernel, by decide +kernel⟩, List.mem_of_getElem? (i := 1187) (by decide +kernel), List.mem_of_getElem? (i := 1571) (by decide +kernel), List.mem_of_getElem? (i := 1572) (by decide +kernel)⟩
theorem lw_p83 : lw_okq (⟨"KillFollowsModel", "reachOf", "(II)I"⟩, 33) := ⟨⟨by decide +kernel, by decide +kernel⟩, List.mem_of_getElem? (i := 1187) (by decide +kernel), List.mem_of_getElem? (i := 1579) (by decide +kernel), List.mem_of_getElem? (i := 1580) (by decide +kernel)⟩
theorem lw_p84 : lw_okq (⟨"KillFollowsModel", "farthestOf", "(I)I"⟩, 33) := ⟨⟨by decide +kernel, by decide +kernel⟩, List.mem_of_getElem? (i := 1187) (by decide +kernel), List.mem_of_getElem? (i := 1591) (by decide +kernel), List.mem_of_getElem? (i := 1592) (by decide +kernel)⟩
theorem lw_p85 : lw_okq (⟨"KillFollowsModel", "lureOf", "(II)I"⟩, 33) := ⟨⟨by decide +kernel, by decide +kernel⟩, List.mem_of_getElem? (i := 1187) (by decide +kernel), List.mem_of_getElem? (i := 1607) (by decide +kernel), List.mem_of_getElem? (i := 1608) (by decide +kernel)⟩
theorem lw_p86 : lw_okq (⟨"KillFollowsModel", "lureFrom", "(IIII)I"⟩, 33) := ⟨⟨by decide +kernel, by decide +kernel⟩, List.mem_of_getElem? (i := 1187) (by decide +kernel), List.mem_of_getElem? (i := 1611) (by decide +kernel), List.mem_of_getElem? (i := 1612) (by decide +kernel)⟩
theorem lw_p87 : lw_okq (⟨"KillFollowsModel", "isCompany", "(II)Z"⟩, 33) := ⟨⟨by decide +kernel, by decide +kernel⟩, List.mem_of_getElem? (i := 1187) (by decide +kernel), List.mem_of_getElem? (i := 1627) (by decide +kernel), List.mem_of_getElem? (i := 1628) (by decide +kernel)⟩
theorem lw_p88 : lw_okq (⟨"KillFollowsModel", "farOf", "(II)I"⟩, 33) := ⟨⟨by decide +kernel, by decide +kernel⟩, List.mem_of_getElem? (i := 1187) (by decide +kernel), List.mem_of_getElem? (i := 1631) (by decide +kernel), List.mem_of_getElem? (i := 1632) (by decide +kernel)⟩
theorem lw_p89 : lw_okq (⟨"KillFollowsModel", "nearestOf", "(I)I"⟩, 33) := ⟨⟨by decide +kernel, by decide +kernel⟩, List.mem_of_getElem? (i := 1187) (by decide +kernel), List.mem_of_getElem? (i := 1640) (by decide +kernel), List.mem_of_getElem? (i := 1641) (by decide +kernel)⟩
theorem lw_p90 : lw_okq (⟨"KillFollowsModel", "owesOf", "(I)I"⟩, 33) := ⟨⟨by decide +kernel, by decide +kernel⟩, List.mem_of_getElem? (i := 1187) (by decide +kernel), List.mem_of_getElem? (i := 1648) (by decide +kernel), List.mem_of_getElem? (i := 1649) (by decide +kernel)⟩
theorem lw_p91 : lw_okq (⟨"KillFollowsModel", "seekRing", "(I)Z"⟩, 33) := ⟨⟨by decide +kernel, by decide +kernel⟩, List.mem_of_getElem? (i := 1187) (by decide +kernel), List.mem_of_getElem? (i := 1656) (by decide +kernel), List.mem_of_getElem? (i := 1657) (by decide +kernel)⟩
theorem lw_p92 : lw_okq (⟨"KillFollowsModel", "tryRing", "(II)V"⟩, 33) := ⟨⟨by decide +kernel, by decide +kernel⟩, List.mem_of_getElem? (i := 1187) (by decide +kernel), List.mem_of_getElem? (i := 1660) (by decide +kernel), List.mem_of_getElem? (i := 1661) (by decide +kernel)⟩
theorem lw_p93 : lw_okq (⟨"KillFollowsModel", "isStray", "(I)Z"⟩, 33) := ⟨⟨by decide +kernel, by decide +kernel⟩, List.mem_of_getElem? (i := 1187) (by decide +kernel), List.mem_of_getElem? (i := 1680) (by decide +kernel), List.mem_of_getElem? (i := 1681) (by decide +kernel)⟩
theorem lw_p94 : lw_okq (⟨"KillFollowsModel", "fitting", "(II)I"⟩, 33) := ⟨⟨by decide +kernel, by decide +kernel⟩, List.mem_of_getElem? (i := 1187) (by decide +kernel), List.mem_of_getElem? (i := 1684) (by decide +kernel), List.mem_of_getElem? (i := 1685) (by decide +kernel)⟩
theorem lw_p95 : lw_okq (⟨"KillFollowsModel", "doesFit", "(III)Z"⟩, 33) := ⟨⟨by decide +kernel, by decide +kernel⟩, List.mem_of_getElem? (i := 1187) (by decide +kernel), List.mem_of_getElem? (i := 1688) (by decide +kernel), List.mem_of_getElem? (i := 1689) (by decide +kernel)⟩
def lw_privs_6 : List (MethodName × Nat) := [(⟨"KillFollowsModel", "stepsTo", "(III)I"⟩, 33), (⟨"KillFollowsModel", "spread", "(II)I"⟩, 33), (⟨"KillFollowsModel", "seenBy", "(I)I"⟩, 33), (⟨"KillFollowsModel", "reachOf", "(II)I"⟩, 33), (⟨"KillFollowsModel", "farthestOf", "(I)I"⟩, 33), (⟨"KillFollowsModel", "lureOf", "(II)I"⟩, 33), (⟨"KillFollowsModel", "lureFrom", "(IIII)I"⟩, 33), (⟨"KillFollowsModel", "isCompany", "(II)Z"⟩, 33), (⟨"KillFollowsModel", "farOf", "(II)I"⟩, 33), (⟨"KillFollowsModel", "nearestOf", "(I)I"⟩, 33), (⟨"KillFollowsModel", "owesOf", "(I)I"⟩, 33), (⟨"KillFollowsModel", "seekRing", "(I)Z"⟩, 33), (⟨"KillFollowsModel", "tryRing", "(II)V"⟩, 33), (⟨"KillFollowsModel", "isStray", "(I)Z"⟩, 33), (⟨"KillFollowsModel", "fitting", "(II)I"⟩, 33), (⟨"KillFollowsModel", "doesFit", "(III)Z"⟩, 33)]
theorem lw_r6 : ∀ q ∈ lw_privs_6, lw_okq q := List.forall_mem_cons.mpr ⟨lw_p80, List.forall_mem_cons.mpr ⟨lw_p81, List.forall_mem_cons.mpr ⟨lw_p82, List.forall_mem_cons.mpr ⟨lw_p83, List.forall_mem_cons.mpr ⟨lw_p84, List.forall_mem_cons.mpr ⟨lw_p85, List.forall_mem_cons.mpr ⟨lw_p86, List.forall_mem_cons.mpr ⟨lw_p87, List.forall_mem_cons.mpr ⟨lw_p88, List.forall_mem_cons.mpr ⟨lw_p89, List.forall_mem_cons.mpr ⟨lw_p90, List.forall_mem_cons.mpr ⟨lw_p91, List.forall_mem_cons.mpr ⟨lw_p92, List.forall_mem_cons.mpr ⟨lw_p93, List.forall_mem_cons.mpr ⟨lw_p94, List.forall_mem_cons.mpr ⟨lw_p95, fun _ h => absurd h List.not_mem_nil⟩⟩⟩⟩⟩⟩⟩⟩⟩⟩⟩⟩⟩⟩⟩⟩
theorem lw_p96 : lw_okq (⟨"KillFollowsModel", "askOf", "(I)I"⟩, 33) := ⟨⟨by decide +kernel, by decide +kernel⟩, List.mem_of_getElem? (i := 1187) (by decide +kernel), List.mem_of_getElem? (i := 1708) (by decide +kernel), List.mem_of_getElem? (i := 1709) (by decide +kernel)⟩
theorem lw_p97 : lw_okq (⟨"KillFollowsModel", "leavesOf", "(II)I"⟩, 33) := ⟨⟨by decide +kernel, by decide +kernel⟩, List.mem_of_getElem? (i := 1187) (by decide +kernel), List.mem_of_getElem? (i := 1712) (by decide +kernel), List.mem_of_getElem? (i := 1713) (by decide +kernel)⟩
theorem lw_p98 : lw_okq (⟨"KillFollowsModel", "seekRests", "(I)I"⟩, 33) := ⟨⟨by decide +kernel, by decide +kernel⟩, List.mem_of_getElem? (i := 1187) (by decide +kernel), List.mem_of_getElem? (i := 1734) (by decide +kernel), List.mem_of_getElem? (i := 1735) (by decide +kernel)⟩
theorem lw_p99 : lw_okq (⟨"KillFollowsModel", "deadBy", "(I)J"⟩, 33) := ⟨⟨by decide +kernel, by decide +kernel⟩, List.mem_of_getElem? (i := 1187) (by decide +kernel), List.mem_of_getElem? (i := 1749) (by decide +kernel), List.mem_of_getElem? (i := 1750) (by decide +kernel)⟩
theorem lw_p100 : lw_okq (⟨"KillFollowsModel", "rambleWhy", "(ZII)I"⟩, 33) := ⟨⟨by decide +kernel, by decide +kernel⟩, List.mem_of_getElem? (i := 1187) (by decide +kernel), List.mem_of_getElem? (i := 1772) (by decide +kernel), List.mem_of_getElem? (i := 1773) (by decide +kernel)⟩
theorem lw_p101 : lw_okq (⟨"KillFollowsModel", "areMet", "()Z"⟩, 33) := ⟨⟨by decide +kernel, by decide +kernel⟩, List.mem_of_getElem? (i := 1187) (by decide +kernel), List.mem_of_getElem? (i := 1778) (by decide +kernel), List.mem_of_getElem? (i := 1779) (by decide +kernel)⟩
theorem lw_p102 : lw_okq (⟨"KillFollowsModel", "note", "()V"⟩, 33) := ⟨⟨by decide +kernel, by decide +kernel⟩, List.mem_of_getElem? (i := 1187) (by decide +kernel), List.mem_of_getElem? (i := 1794) (by decide +kernel), List.mem_of_getElem? (i := 1795) (by decide +kernel)⟩
theorem lw_p103 : lw_okq (⟨"KillFollowsModel", "isNot", "(I)Z"⟩, 33) := ⟨⟨by decide +kernel, by decide +kernel⟩, List.mem_of_getElem? (i := 1187) (by decide +kernel), List.mem_of_getElem? (i := 1806) (by decide +kernel), List.mem_of_getElem? (i := 1807) (by decide +kernel)⟩
def lw_privs_7 : List (MethodName × Nat) := [(⟨"KillFollowsModel", "askOf", "(I)I"⟩, 33), (⟨"KillFollowsModel", "leavesOf", "(II)I"⟩, 33), (⟨"KillFollowsModel", "seekRests", "(I)I"⟩, 33), (⟨"KillFollowsModel", "deadBy", "(I)J"⟩, 33), (⟨"KillFollowsModel", "rambleWhy", "(ZII)I"⟩, 33), (⟨"KillFollowsModel", "areMet", "()Z"⟩, 33), (⟨"KillFollowsModel", "note", "()V"⟩, 33), (⟨"KillFollowsModel", "isNot", "(I)Z"⟩, 33)]
theorem lw_r7 : ∀ q ∈ lw_privs_7, lw_okq q := List.forall_mem_cons.mpr ⟨lw_p96, List.forall_mem_cons.mpr ⟨lw_p97, List.forall_mem_cons.mpr ⟨lw_p98, List.forall_mem_cons.mpr ⟨lw_p99, List.forall_mem_cons.mpr ⟨lw_p100, List.forall_mem_cons.mpr ⟨lw_p101, List.forall_mem_cons.mpr ⟨lw_p102, List.forall_mem_cons.mpr ⟨lw_p103, fun _ h => absurd h List.not_mem_nil⟩⟩⟩⟩⟩⟩⟩⟩
def lw_privs : List (MethodName × Nat) := lw_privs_1 ++ (lw_privs_2 ++ (lw_privs_3 ++ (lw_privs_4 ++ (lw_privs_5 ++ (lw_privs_6 ++ (lw_privs_7))))))
def lw_tbl : List Cond := k2_sels lw_privs ++ tables_1
theorem lw_privs_ok : ∀ q ∈ lw_privs, lw_okq q := by
  show ∀ q ∈ lw_privs_1 ++ (lw_privs_2 ++ (lw_privs_3 ++ (lw_privs_4 ++ (lw_privs_5 ++ (lw_privs_6 ++ (lw_privs_7)))))), lw_okq q
  exact List.forall_mem_append.mpr ⟨lw_r1, List.forall_mem_append.mpr ⟨lw_r2, List.forall_mem_append.mpr ⟨lw_r3, List.forall_mem_append.mpr ⟨lw_r4, List.forall_mem_append.mpr ⟨lw_r5, List.forall_mem_append.mpr ⟨lw_r6, lw_r7⟩⟩⟩⟩⟩⟩
/-! ===== BEGIN printed: names, fields, word lists, decode rows ===== -/
def RX0 : String := "KillFollows$Chances"
def TX0 : u_T := fun k => match k with
  | _ => ("", "", "", false)
def tyX0 : Nat → FieldType := fun k => match k with
  | _ => .int
abbrev wsX00 : List Cond := u_ws RX0 TX0 0
theorem nmX0 : ∀ a, a < 0 → ∀ b, b < 0 → a ≠ b → (TX0 a).2.1 ≠ (TX0 b).2.1 := by decide +kernel
theorem tyX0_ok : ∀ k, k < 0 → parseFieldDescriptor (TX0 k).2.2.1 = some (tyX0 k) := by decide +kernel
abbrev cX0_power : ByteArray := prog_2_method_2_code
def yX0_power : MethodName := ⟨RX0, "power", "(JI)J"⟩
abbrev cX0_hundreds : ByteArray := prog_2_method_3_code
def yX0_hundreds : MethodName := ⟨RX0, "hundreds", "(I)J"⟩
abbrev cX0_dead : ByteArray := prog_2_method_4_code
def yX0_dead : MethodName := ⟨RX0, "dead", "(II)J"⟩
abbrev cX0_part : ByteArray := prog_2_method_5_code
def yX0_part : MethodName := ⟨RX0, "part", "(JJZ)J"⟩
abbrev cX0_commonDivisor : ByteArray := prog_2_method_6_code
def yX0_commonDivisor : MethodName := ⟨RX0, "commonDivisor", "(JJ)J"⟩
def RX1 : String := "KillFollows$Company"
def TX1 : u_T := fun k => match k with
  | _ => ("KillFollows$Company", "close", "[I", true)
def tyX1 : Nat → FieldType := fun k => match k with
  | _ => .array .int
abbrev wsX10 : List Cond := u_ws RX1 TX1 1
theorem nmX1 : ∀ a, a < 1 → ∀ b, b < 1 → a ≠ b → (TX1 a).2.1 ≠ (TX1 b).2.1 := by decide +kernel
theorem tyX1_ok : ∀ k, k < 1 → parseFieldDescriptor (TX1 k).2.2.1 = some (tyX1 k) := by decide +kernel
abbrev cX1_init : ByteArray := prog_3_method_1_code
def yX1_init : MethodName := ⟨RX1, "<init>", "()V"⟩
abbrev cX1_distanceTo : ByteArray := prog_3_method_2_code
def yX1_distanceTo : MethodName := ⟨RX1, "distanceTo", "(LKillFollows$Scene;II)I"⟩
abbrev cX1_fewestKills : ByteArray := prog_3_method_3_code
def yX1_fewestKills : MethodName := ⟨RX1, "fewestKills", "(LKillFollows$Scene;I)I"⟩
abbrev cX1_killsWithin : ByteArray := prog_3_method_4_code
def yX1_killsWithin : MethodName := ⟨RX1, "killsWithin", "(LKillFollows$Scene;II)I"⟩
abbrev cX1_isCompany : ByteArray := prog_3_method_5_code
def yX1_isCompany : MethodName := ⟨RX1, "isCompany", "(LKillFollows$Scene;I)Z"⟩
abbrev cX1_loneliest : ByteArray := prog_3_method_6_code
def yX1_loneliest : MethodName := ⟨RX1, "loneliest", "(LKillFollows$Scene;)I"⟩
abbrev cX1_nearestTo : ByteArray := prog_3_method_7_code
def yX1_nearestTo : MethodName := ⟨RX1, "nearestTo", "(LKillFollows$Scene;I)I"⟩
abbrev cX1_creditors : ByteArray := prog_3_method_8_code
def yX1_creditors : MethodName := ⟨RX1, "creditors", "(LKillFollows$Scene;I)I"⟩
abbrev cX1_menBehindDebts : ByteArray := prog_3_method_9_code
def yX1_menBehindDebts : MethodName := ⟨RX1, "menBehindDebts", "(LKillFollows$Scene;II)I"⟩
abbrev cX1_ringLength : ByteArray := prog_3_method_10_code
def yX1_ringLength : MethodName := ⟨RX1, "ringLength", "(LKillFollows$Scene;I)I"⟩
abbrev cX1_ringMember : ByteArray := prog_3_method_11_code
def yX1_ringMember : MethodName := ⟨RX1, "ringMember", "(LKillFollows$Scene;III)I"⟩
abbrev cX1_firstTowards : ByteArray := prog_3_method_12_code
def yX1_firstTowards : MethodName := ⟨RX1, "firstTowards", "(LKillFollows$Scene;III)I"⟩
abbrev cX1_killsToGiveBack : ByteArray := prog_3_method_13_code
def yX1_killsToGiveBack : MethodName := ⟨RX1, "killsToGiveBack", "(LKillFollows$Scene;)I"⟩
abbrev cX1_mostRobbed : ByteArray := prog_3_method_14_code
def yX1_mostRobbed : MethodName := ⟨RX1, "mostRobbed", "(LKillFollows$Scene;)I"⟩
def RX2 : String := "KillFollows$Edge"
def TX2 : u_T := fun k => match k with
  | _ => ("", "", "", false)
def tyX2 : Nat → FieldType := fun k => match k with
  | _ => .int
abbrev wsX20 : List Cond := u_ws RX2 TX2 0
theorem nmX2 : ∀ a, a < 0 → ∀ b, b < 0 → a ≠ b → (TX2 a).2.1 ≠ (TX2 b).2.1 := by decide +kernel
theorem tyX2_ok : ∀ k, k < 0 → parseFieldDescriptor (TX2 k).2.2.1 = some (tyX2 k) := by decide +kernel
abbrev cX2_gain : ByteArray := prog_4_method_2_code
def yX2_gain : MethodName := ⟨RX2, "gain", "(IZZZ)I"⟩
abbrev cX2_isRest : ByteArray := prog_4_method_3_code
def yX2_isRest : MethodName := ⟨RX2, "isRest", "(II)Z"⟩
abbrev cX2_countRests : ByteArray := prog_4_method_4_code
def yX2_countRests : MethodName := ⟨RX2, "countRests", "(I)I"⟩
abbrev cX2_firstRest : ByteArray := prog_4_method_5_code
def yX2_firstRest : MethodName := ⟨RX2, "firstRest", "(I)I"⟩
def RX3 : String := "KillFollows$Past"
def TX3 : u_T := fun k => match k with
  | 0 => ("KillFollows$Past", "kept", "I", false)
  | 1 => ("KillFollows$Past", "acts", "[I", true)
  | 2 => ("KillFollows$Past", "whose", "[I", true)
  | 3 => ("KillFollows$Past", "before", "[I", true)
  | _ => ("KillFollows$Past", "latest", "I", false)
def tyX3 : Nat → FieldType := fun k => match k with
  | 0 => .int
  | 1 => .array .int
  | 2 => .array .int
  | 3 => .array .int
  | _ => .int
abbrev wsX30 : List Cond := u_ws RX3 TX3 5
theorem nmX3 : ∀ a, a < 5 → ∀ b, b < 5 → a ≠ b → (TX3 a).2.1 ≠ (TX3 b).2.1 := by decide +kernel
theorem tyX3_ok : ∀ k, k < 5 → parseFieldDescriptor (TX3 k).2.2.1 = some (tyX3 k) := by decide +kernel
abbrev cX3_init : ByteArray := prog_5_method_1_code
def yX3_init : MethodName := ⟨RX3, "<init>", "()V"⟩
abbrev cX3_forget : ByteArray := prog_5_method_2_code
def yX3_forget : MethodName := ⟨RX3, "forget", "()V"⟩
abbrev cX3_keep : ByteArray := prog_5_method_3_code
def yX3_keep : MethodName := ⟨RX3, "keep", "(III)V"⟩
abbrev cX3_takeBack : ByteArray := prog_5_method_4_code
def yX3_takeBack : MethodName := ⟨RX3, "takeBack", "(LKillFollows$Scene;)Z"⟩
def RX4 : String := "KillFollows$Reader"
def TX4 : u_T := fun k => match k with
  | 0 => ("KillFollows$Reader", "tape", "LKillFollows$Tape;", true)
  | 1 => ("KillFollows$Reader", "faultFound", "I", false)
  | 2 => ("KillFollows$Reader", "faultAt", "I", false)
  | 3 => ("KillFollows$Reader", "names", "[J", true)
  | 4 => ("KillFollows$Reader", "nameSorts", "[I", true)
  | 5 => ("KillFollows$Reader", "nameNumbers", "[I", true)
  | 6 => ("KillFollows$Reader", "nameCount", "I", false)
  | _ => ("KillFollows$Reader", "draft", "LKillFollows$Scene;", false)
def tyX4 : Nat → FieldType := fun k => match k with
  | 0 => .object "KillFollows$Tape"
  | 1 => .int
  | 2 => .int
  | 3 => .array .long
  | 4 => .array .int
  | 5 => .array .int
  | 6 => .int
  | _ => .object "KillFollows$Scene"
abbrev wsX40 : List Cond := u_ws RX4 TX4 8
theorem nmX4 : ∀ a, a < 8 → ∀ b, b < 8 → a ≠ b → (TX4 a).2.1 ≠ (TX4 b).2.1 := by decide +kernel
theorem tyX4_ok : ∀ k, k < 8 → parseFieldDescriptor (TX4 k).2.2.1 = some (tyX4 k) := by decide +kernel
abbrev cX4_init : ByteArray := prog_6_method_1_code
def yX4_init : MethodName := ⟨RX4, "<init>", "()V"⟩
abbrev cX4_exchange : ByteArray := prog_6_method_2_code
def yX4_exchange : MethodName := ⟨RX4, "exchange", "(LKillFollows$Scene;)LKillFollows$Scene;"⟩
abbrev cX4_read : ByteArray := prog_6_method_3_code
def yX4_read : MethodName := ⟨RX4, "read", "(I)Z"⟩
abbrev cX4_fail : ByteArray := prog_6_method_4_code
def yX4_fail : MethodName := ⟨RX4, "fail", "(I)Z"⟩
abbrev cX4_failed : ByteArray := prog_6_method_5_code
def yX4_failed : MethodName := ⟨RX4, "failed", "(I)I"⟩
abbrev cX4_readLineWord : ByteArray := prog_6_method_6_code
def yX4_readLineWord : MethodName := ⟨RX4, "readLineWord", "()I"⟩
abbrev cX4_readRest : ByteArray := prog_6_method_7_code
def yX4_readRest : MethodName := ⟨RX4, "readRest", "(I)Z"⟩
abbrev cX4_readForest : ByteArray := prog_6_method_8_code
def yX4_readForest : MethodName := ⟨RX4, "readForest", "()Z"⟩
abbrev cX4_readPlace : ByteArray := prog_6_method_9_code
def yX4_readPlace : MethodName := ⟨RX4, "readPlace", "(I)Z"⟩
abbrev cX4_readPath : ByteArray := prog_6_method_10_code
def yX4_readPath : MethodName := ⟨RX4, "readPath", "()Z"⟩
abbrev cX4_readMan : ByteArray := prog_6_method_11_code
def yX4_readMan : MethodName := ⟨RX4, "readMan", "(I)Z"⟩
abbrev cX4_readKill : ByteArray := prog_6_method_12_code
def yX4_readKill : MethodName := ⟨RX4, "readKill", "(I)Z"⟩
abbrev cX4_readStray : ByteArray := prog_6_method_13_code
def yX4_readStray : MethodName := ⟨RX4, "readStray", "(I)Z"⟩
abbrev cX4_readWalk : ByteArray := prog_6_method_14_code
def yX4_readWalk : MethodName := ⟨RX4, "readWalk", "()Z"⟩
abbrev cX4_readTaken : ByteArray := prog_6_method_15_code
def yX4_readTaken : MethodName := ⟨RX4, "readTaken", "()Z"⟩
abbrev cX4_readWord : ByteArray := prog_6_method_16_code
def yX4_readWord : MethodName := ⟨RX4, "readWord", "(Ljava/lang/String;)Z"⟩
abbrev cX4_readWhole : ByteArray := prog_6_method_17_code
def yX4_readWhole : MethodName := ⟨RX4, "readWhole", "(I)I"⟩
abbrev cX4_readNewName : ByteArray := prog_6_method_18_code
def yX4_readNewName : MethodName := ⟨RX4, "readNewName", "(II)Z"⟩
abbrev cX4_findName : ByteArray := prog_6_method_19_code
def yX4_findName : MethodName := ⟨RX4, "findName", "(I)I"⟩
abbrev cX4_entryOfWord : ByteArray := prog_6_method_20_code
def yX4_entryOfWord : MethodName := ⟨RX4, "entryOfWord", "()I"⟩
abbrev cX4_kindOfWord : ByteArray := prog_6_method_21_code
def yX4_kindOfWord : MethodName := ⟨RX4, "kindOfWord", "()I"⟩
abbrev cX4_lineWord : ByteArray := prog_6_method_22_code
def yX4_lineWord : MethodName := ⟨RX4, "lineWord", "(I)Ljava/lang/String;"⟩
abbrev cX4_kindWord : ByteArray := prog_6_method_23_code
def yX4_kindWord : MethodName := ⟨RX4, "kindWord", "(I)Ljava/lang/String;"⟩
def RX5 : String := "KillFollows$Scene"
def TX5 : u_T := fun k => match k with
  | 0 => ("KillFollows$Scene", "told", "LKillFollows$Told;", false)
  | 1 => ("KillFollows$Scene", "leads", "[I", true)
  | 2 => ("KillFollows$Scene", "lamps", "I", false)
  | 3 => ("KillFollows$Scene", "steps", "I", false)
  | _ => ("KillFollows$Scene", "trails", "[I", true)
def tyX5 : Nat → FieldType := fun k => match k with
  | 0 => .object "KillFollows$Told"
  | 1 => .array .int
  | 2 => .int
  | 3 => .int
  | _ => .array .int
abbrev wsX50 : List Cond := u_ws RX5 TX5 5
theorem nmX5 : ∀ a, a < 5 → ∀ b, b < 5 → a ≠ b → (TX5 a).2.1 ≠ (TX5 b).2.1 := by decide +kernel
theorem tyX5_ok : ∀ k, k < 5 → parseFieldDescriptor (TX5 k).2.2.1 = some (tyX5 k) := by decide +kernel
abbrev cX5_init : ByteArray := prog_7_method_1_code
def yX5_init : MethodName := ⟨RX5, "<init>", "(LKillFollows$Told;)V"⟩
abbrev cX5_become : ByteArray := prog_7_method_2_code
def yX5_become : MethodName := ⟨RX5, "become", "(LKillFollows$Scene;)V"⟩
abbrev cX5_at : ByteArray := prog_7_method_3_code
def yX5_at : MethodName := ⟨RX5, "at", "(I)I"⟩
abbrev cX5_wasAt : ByteArray := prog_7_method_4_code
def yX5_wasAt : MethodName := ⟨RX5, "wasAt", "(II)I"⟩
abbrev cX5_settleAt : ByteArray := prog_7_method_5_code
def yX5_settleAt : MethodName := ⟨RX5, "settleAt", "(II)V"⟩
abbrev cX5_mayGo : ByteArray := prog_7_method_6_code
def yX5_mayGo : MethodName := ⟨RX5, "mayGo", "(II)Z"⟩
abbrev cX5_go : ByteArray := prog_7_method_7_code
def yX5_go : MethodName := ⟨RX5, "go", "(II)V"⟩
abbrev cX5_goBack : ByteArray := prog_7_method_8_code
def yX5_goBack : MethodName := ⟨RX5, "goBack", "(II)V"⟩
abbrev cX5_isLit : ByteArray := prog_7_method_9_code
def yX5_isLit : MethodName := ⟨RX5, "isLit", "(I)Z"⟩
abbrev cX5_turnLamp : ByteArray := prog_7_method_10_code
def yX5_turnLamp : MethodName := ⟨RX5, "turnLamp", "(I)V"⟩
abbrev cX5_standBehind : ByteArray := prog_7_method_11_code
def yX5_standBehind : MethodName := ⟨RX5, "standBehind", "(II)I"⟩
abbrev cX5_standOf : ByteArray := prog_7_method_12_code
def yX5_standOf : MethodName := ⟨RX5, "standOf", "(I)I"⟩
abbrev cX5_killsAt : ByteArray := prog_7_method_13_code
def yX5_killsAt : MethodName := ⟨RX5, "killsAt", "(I)I"⟩
abbrev cX5_killsAround : ByteArray := prog_7_method_14_code
def yX5_killsAround : MethodName := ⟨RX5, "killsAround", "(I)I"⟩
abbrev cX5_killsWithin : ByteArray := prog_7_method_15_code
def yX5_killsWithin : MethodName := ⟨RX5, "killsWithin", "(I)I"⟩
abbrev cX5_killsElsewhereThan : ByteArray := prog_7_method_16_code
def yX5_killsElsewhereThan : MethodName := ⟨RX5, "killsElsewhereThan", "(LKillFollows$Scene;)I"⟩
abbrev cX5_soManiethNowhere : ByteArray := prog_7_method_17_code
def yX5_soManiethNowhere : MethodName := ⟨RX5, "soManiethNowhere", "(I)I"⟩
abbrev cX5_killsBehind : ByteArray := prog_7_method_18_code
def yX5_killsBehind : MethodName := ⟨RX5, "killsBehind", "(I)I"⟩
abbrev cX5_menAt : ByteArray := prog_7_method_19_code
def yX5_menAt : MethodName := ⟨RX5, "menAt", "(I)I"⟩
abbrev cX5_twoMenTogether : ByteArray := prog_7_method_20_code
def yX5_twoMenTogether : MethodName := ⟨RX5, "twoMenTogether", "()Z"⟩
abbrev cX5_mostFollowed : ByteArray := prog_7_method_21_code
def yX5_mostFollowed : MethodName := ⟨RX5, "mostFollowed", "()I"⟩
abbrev cX5_roomAt : ByteArray := prog_7_method_22_code
def yX5_roomAt : MethodName := ⟨RX5, "roomAt", "(I)I"⟩
abbrev cX5_isCrowded : ByteArray := prog_7_method_23_code
def yX5_isCrowded : MethodName := ⟨RX5, "isCrowded", "(I)Z"⟩
abbrev cX5_crowdedPlaces : ByteArray := prog_7_method_24_code
def yX5_crowdedPlaces : MethodName := ⟨RX5, "crowdedPlaces", "()I"⟩
abbrev cX5_roomLeft : ByteArray := prog_7_method_25_code
def yX5_roomLeft : MethodName := ⟨RX5, "roomLeft", "()I"⟩
abbrev cX5_unseenPlaces : ByteArray := prog_7_method_26_code
def yX5_unseenPlaces : MethodName := ⟨RX5, "unseenPlaces", "(I)I"⟩
def RX6 : String := "KillFollows$Strays"
def TX6 : u_T := fun k => match k with
  | _ => ("", "", "", false)
def tyX6 : Nat → FieldType := fun k => match k with
  | _ => .int
abbrev wsX60 : List Cond := u_ws RX6 TX6 0
theorem nmX6 : ∀ a, a < 0 → ∀ b, b < 0 → a ≠ b → (TX6 a).2.1 ≠ (TX6 b).2.1 := by decide +kernel
theorem tyX6_ok : ∀ k, k < 0 → parseFieldDescriptor (TX6 k).2.2.1 = some (tyX6 k) := by decide +kernel
abbrev cX6_countOf : ByteArray := prog_8_method_2_code
def yX6_countOf : MethodName := ⟨RX6, "countOf", "(LKillFollows$Scene;II)I"⟩
abbrev cX6_countAll : ByteArray := prog_8_method_3_code
def yX6_countAll : MethodName := ⟨RX6, "countAll", "(LKillFollows$Scene;I)I"⟩
abbrev cX6_soManieth : ByteArray := prog_8_method_4_code
def yX6_soManieth : MethodName := ⟨RX6, "soManieth", "(LKillFollows$Scene;II)I"⟩
abbrev cX6_menOfFits : ByteArray := prog_8_method_5_code
def yX6_menOfFits : MethodName := ⟨RX6, "menOfFits", "(LKillFollows$Scene;I)I"⟩
abbrev cX6_onlyMan : ByteArray := prog_8_method_6_code
def yX6_onlyMan : MethodName := ⟨RX6, "onlyMan", "(LKillFollows$Scene;I)I"⟩
abbrev cX6_leftBehind : ByteArray := prog_8_method_7_code
def yX6_leftBehind : MethodName := ⟨RX6, "leftBehind", "(LKillFollows$Scene;II)I"⟩
abbrev cX6_manToAsk : ByteArray := prog_8_method_8_code
def yX6_manToAsk : MethodName := ⟨RX6, "manToAsk", "(LKillFollows$Scene;I)I"⟩
def RX7 : String := "KillFollows$Tape"
def TX7 : u_T := fun k => match k with
  | 0 => ("KillFollows$Tape", "length", "I", false)
  | 1 => ("KillFollows$Tape", "sort", "I", false)
  | 2 => ("KillFollows$Tape", "start", "I", false)
  | 3 => ("KillFollows$Tape", "value", "I", false)
  | 4 => ("KillFollows$Tape", "code", "J", false)
  | 5 => ("KillFollows$Tape", "bytes", "[I", true)
  | 6 => ("KillFollows$Tape", "end", "I", false)
  | _ => ("KillFollows$Tape", "next", "I", false)
def tyX7 : Nat → FieldType := fun k => match k with
  | 0 => .int
  | 1 => .int
  | 2 => .int
  | 3 => .int
  | 4 => .long
  | 5 => .array .int
  | 6 => .int
  | _ => .int
abbrev wsX70 : List Cond := u_ws RX7 TX7 8
theorem nmX7 : ∀ a, a < 8 → ∀ b, b < 8 → a ≠ b → (TX7 a).2.1 ≠ (TX7 b).2.1 := by decide +kernel
theorem tyX7_ok : ∀ k, k < 8 → parseFieldDescriptor (TX7 k).2.2.1 = some (tyX7 k) := by decide +kernel
abbrev cX7_init : ByteArray := prog_9_method_1_code
def yX7_init : MethodName := ⟨RX7, "<init>", "()V"⟩
abbrev cX7_append : ByteArray := prog_9_method_2_code
def yX7_append : MethodName := ⟨RX7, "append", "(I)V"⟩
abbrev cX7_begin : ByteArray := prog_9_method_3_code
def yX7_begin : MethodName := ⟨RX7, "begin", "(I)V"⟩
abbrev cX7_advance : ByteArray := prog_9_method_4_code
def yX7_advance : MethodName := ⟨RX7, "advance", "()V"⟩
abbrev cX7_sortOf : ByteArray := prog_9_method_5_code
def yX7_sortOf : MethodName := ⟨RX7, "sortOf", "(I)I"⟩
abbrev cX7_codeOf : ByteArray := prog_9_method_6_code
def yX7_codeOf : MethodName := ⟨RX7, "codeOf", "(Ljava/lang/String;)J"⟩
abbrev cX7_spells : ByteArray := prog_9_method_7_code
def yX7_spells : MethodName := ⟨RX7, "spells", "(Ljava/lang/String;)Z"⟩
def RX8 : String := "KillFollows$Told"
def TX8 : u_T := fun k => match k with
  | 0 => ("KillFollows$Told", "count", "[I", true)
  | 1 => ("KillFollows$Told", "holds", "[I", true)
  | 2 => ("KillFollows$Told", "neighbours", "[I", true)
  | 3 => ("KillFollows$Told", "kind", "[I", true)
  | 4 => ("KillFollows$Told", "shot", "[I", true)
  | 5 => ("KillFollows$Told", "far", "[I", true)
  | 6 => ("KillFollows$Told", "worth", "[I", true)
  | 7 => ("KillFollows$Told", "seen", "[I", true)
  | _ => ("KillFollows$Told", "dies", "I", false)
def tyX8 : Nat → FieldType := fun k => match k with
  | 0 => .array .int
  | 1 => .array .int
  | 2 => .array .int
  | 3 => .array .int
  | 4 => .array .int
  | 5 => .array .int
  | 6 => .array .int
  | 7 => .array .int
  | _ => .int
abbrev wsX80 : List Cond := u_ws RX8 TX8 9
theorem nmX8 : ∀ a, a < 9 → ∀ b, b < 9 → a ≠ b → (TX8 a).2.1 ≠ (TX8 b).2.1 := by decide +kernel
theorem tyX8_ok : ∀ k, k < 9 → parseFieldDescriptor (TX8 k).2.2.1 = some (tyX8 k) := by decide +kernel
abbrev cX8_init : ByteArray := prog_10_method_1_code
def yX8_init : MethodName := ⟨RX8, "<init>", "()V"⟩
abbrev cX8_clear : ByteArray := prog_10_method_2_code
def yX8_clear : MethodName := ⟨RX8, "clear", "()V"⟩
abbrev cX8_stepsBehind : ByteArray := prog_10_method_3_code
def yX8_stepsBehind : MethodName := ⟨RX8, "stepsBehind", "(II)I"⟩
abbrev cX8_killsShotBy : ByteArray := prog_10_method_4_code
def yX8_killsShotBy : MethodName := ⟨RX8, "killsShotBy", "(I)I"⟩
abbrev cX8_worthOf : ByteArray := prog_10_method_5_code
def yX8_worthOf : MethodName := ⟨RX8, "worthOf", "(I)I"⟩
def RX9 : String := "KillFollows$Trial"
def TX9 : u_T := fun k => match k with
  | 0 => ("KillFollows$Trial", "scene", "LKillFollows$Scene;", true)
  | 1 => ("KillFollows$Trial", "foundRow", "I", false)
  | _ => ("KillFollows$Trial", "seed", "I", false)
def tyX9 : Nat → FieldType := fun k => match k with
  | 0 => .object "KillFollows$Scene"
  | 1 => .int
  | _ => .int
abbrev wsX90 : List Cond := u_ws RX9 TX9 3
theorem nmX9 : ∀ a, a < 3 → ∀ b, b < 3 → a ≠ b → (TX9 a).2.1 ≠ (TX9 b).2.1 := by decide +kernel
theorem tyX9_ok : ∀ k, k < 3 → parseFieldDescriptor (TX9 k).2.2.1 = some (tyX9 k) := by decide +kernel
abbrev cX9_init : ByteArray := prog_11_method_1_code
def yX9_init : MethodName := ⟨RX9, "<init>", "()V"⟩
abbrev cX9_begin : ByteArray := prog_11_method_2_code
def yX9_begin : MethodName := ⟨RX9, "begin", "(LKillFollows$Scene;)V"⟩
abbrev cX9_goal : ByteArray := prog_11_method_3_code
def yX9_goal : MethodName := ⟨RX9, "goal", "(II)I"⟩
abbrev cX9_walkRow : ByteArray := prog_11_method_4_code
def yX9_walkRow : MethodName := ⟨RX9, "walkRow", "(III)Z"⟩
abbrev cX9_stepsToLure : ByteArray := prog_11_method_5_code
def yX9_stepsToLure : MethodName := ⟨RX9, "stepsToLure", "(II)I"⟩
abbrev cX9_findsRow : ByteArray := prog_11_method_6_code
def yX9_findsRow : MethodName := ⟨RX9, "findsRow", "(III)Z"⟩
abbrev cX9_isStep : ByteArray := prog_11_method_7_code
def yX9_isStep : MethodName := ⟨RX9, "isStep", "(II)Z"⟩
abbrev cX9_placesLured : ByteArray := prog_11_method_8_code
def yX9_placesLured : MethodName := ⟨RX9, "placesLured", "(II)I"⟩
abbrev cX9_ramble : ByteArray := prog_11_method_9_code
def yX9_ramble : MethodName := ⟨RX9, "ramble", "(II)V"⟩
abbrev cX9_rambleUntilTwoMeet : ByteArray := prog_11_method_10_code
def yX9_rambleUntilTwoMeet : MethodName := ⟨RX9, "rambleUntilTwoMeet", "(II)I"⟩
abbrev cX9_rambleOnce : ByteArray := prog_11_method_11_code
def yX9_rambleOnce : MethodName := ⟨RX9, "rambleOnce", "()V"⟩
abbrev cX9_soManieth : ByteArray := prog_11_method_12_code
def yX9_soManieth : MethodName := ⟨RX9, "soManieth", "(II)I"⟩
def RX10 : String := "KillFollows$Ways"
def TX10 : u_T := fun k => match k with
  | _ => ("", "", "", false)
def tyX10 : Nat → FieldType := fun k => match k with
  | _ => .int
abbrev wsX100 : List Cond := u_ws RX10 TX10 0
theorem nmX10 : ∀ a, a < 0 → ∀ b, b < 0 → a ≠ b → (TX10 a).2.1 ≠ (TX10 b).2.1 := by decide +kernel
theorem tyX10_ok : ∀ k, k < 0 → parseFieldDescriptor (TX10 k).2.2.1 = some (tyX10 k) := by decide +kernel
abbrev cX10_all : ByteArray := prog_12_method_2_code
def yX10_all : MethodName := ⟨RX10, "all", "(LKillFollows$Told;)I"⟩
abbrev cX10_spread : ByteArray := prog_12_method_3_code
def yX10_spread : MethodName := ⟨RX10, "spread", "(LKillFollows$Told;II)I"⟩
abbrev cX10_reach : ByteArray := prog_12_method_4_code
def yX10_reach : MethodName := ⟨RX10, "reach", "(LKillFollows$Told;II)I"⟩
abbrev cX10_distance : ByteArray := prog_12_method_5_code
def yX10_distance : MethodName := ⟨RX10, "distance", "(LKillFollows$Told;III)I"⟩
abbrev cX10_firstStep : ByteArray := prog_12_method_6_code
def yX10_firstStep : MethodName := ⟨RX10, "firstStep", "(LKillFollows$Told;II)I"⟩
abbrev cX10_fewestBetween : ByteArray := prog_12_method_7_code
def yX10_fewestBetween : MethodName := ⟨RX10, "fewestBetween", "(LKillFollows$Told;II)I"⟩
abbrev cX10_farthest : ByteArray := prog_12_method_8_code
def yX10_farthest : MethodName := ⟨RX10, "farthest", "(LKillFollows$Told;I)I"⟩
abbrev cX10_mostCentral : ByteArray := prog_12_method_9_code
def yX10_mostCentral : MethodName := ⟨RX10, "mostCentral", "(LKillFollows$Told;)I"⟩
abbrev cX10_partCount : ByteArray := prog_12_method_10_code
def yX10_partCount : MethodName := ⟨RX10, "partCount", "(LKillFollows$Told;)I"⟩
def RX11 : String := "KillFollows"
def TX11 : u_T := fun k => match k with
  | 0 => ("KillFollows", "reader", "LKillFollows$Reader;", true)
  | 1 => ("KillFollows", "trial", "LKillFollows$Trial;", true)
  | 2 => ("KillFollows", "company", "LKillFollows$Company;", true)
  | 3 => ("KillFollows", "past", "LKillFollows$Past;", true)
  | 4 => ("KillFollows", "images", "[LKillFollows$Scene;", true)
  | 5 => ("KillFollows", "now", "LKillFollows$Scene;", true)
  | 6 => ("KillFollows", "start", "LKillFollows$Scene;", false)
  | 7 => ("KillFollows", "imageCount", "I", false)
  | 8 => ("KillFollows", "latestTrouble", "I", false)
  | 9 => ("KillFollows", "latestFault", "I", false)
  | _ => ("KillFollows", "faultPlace", "I", false)
def tyX11 : Nat → FieldType := fun k => match k with
  | 0 => .object "KillFollows$Reader"
  | 1 => .object "KillFollows$Trial"
  | 2 => .object "KillFollows$Company"
  | 3 => .object "KillFollows$Past"
  | 4 => .array (.object "KillFollows$Scene")
  | 5 => .object "KillFollows$Scene"
  | 6 => .object "KillFollows$Scene"
  | 7 => .int
  | 8 => .int
  | 9 => .int
  | _ => .int
abbrev wsX110 : List Cond := u_ws RX11 TX11 11
theorem nmX11 : ∀ a, a < 11 → ∀ b, b < 11 → a ≠ b → (TX11 a).2.1 ≠ (TX11 b).2.1 := by decide +kernel
theorem tyX11_ok : ∀ k, k < 11 → parseFieldDescriptor (TX11 k).2.2.1 = some (tyX11 k) := by decide +kernel
abbrev cX11_init : ByteArray := prog_1_method_1_code
def yX11_init : MethodName := ⟨RX11, "<init>", "()V"⟩
abbrev cX11_feed : ByteArray := prog_1_method_2_code
def yX11_feed : MethodName := ⟨RX11, "feed", "(IIIII)I"⟩
abbrev cX11_forest : ByteArray := prog_1_method_3_code
def yX11_forest : MethodName := ⟨RX11, "forest", "(I)I"⟩
abbrev cX11_fault : ByteArray := prog_1_method_4_code
def yX11_fault : MethodName := ⟨RX11, "fault", "()I"⟩
abbrev cX11_where : ByteArray := prog_1_method_5_code
def yX11_where : MethodName := ⟨RX11, "where", "()I"⟩
abbrev cX11_place : ByteArray := prog_1_method_6_code
def yX11_place : MethodName := ⟨RX11, "place", "(II)I"⟩
abbrev cX11_man : ByteArray := prog_1_method_7_code
def yX11_man : MethodName := ⟨RX11, "man", "(II)I"⟩
abbrev cX11_kill : ByteArray := prog_1_method_8_code
def yX11_kill : MethodName := ⟨RX11, "kill", "(II)I"⟩
abbrev cX11_trail : ByteArray := prog_1_method_9_code
def yX11_trail : MethodName := ⟨RX11, "trail", "(II)I"⟩
abbrev cX11_crowded : ByteArray := prog_1_method_10_code
def yX11_crowded : MethodName := ⟨RX11, "crowded", "()I"⟩
abbrev cX11_leader : ByteArray := prog_1_method_11_code
def yX11_leader : MethodName := ⟨RX11, "leader", "()I"⟩
abbrev cX11_near : ByteArray := prog_1_method_12_code
def yX11_near : MethodName := ⟨RX11, "near", "(I)I"⟩
abbrev cX11_room : ByteArray := prog_1_method_13_code
def yX11_room : MethodName := ⟨RX11, "room", "()I"⟩
abbrev cX11_apart : ByteArray := prog_1_method_14_code
def yX11_apart : MethodName := ⟨RX11, "apart", "(II)I"⟩
abbrev cX11_next : ByteArray := prog_1_method_15_code
def yX11_next : MethodName := ⟨RX11, "next", "(II)I"⟩
abbrev cX11_unseen : ByteArray := prog_1_method_16_code
def yX11_unseen : MethodName := ⟨RX11, "unseen", "(II)I"⟩
abbrev cX11_safe : ByteArray := prog_1_method_17_code
def yX11_safe : MethodName := ⟨RX11, "safe", "(I)I"⟩
abbrev cX11_cut : ByteArray := prog_1_method_18_code
def yX11_cut : MethodName := ⟨RX11, "cut", "(II)I"⟩
abbrev cX11_middle : ByteArray := prog_1_method_19_code
def yX11_middle : MethodName := ⟨RX11, "middle", "()I"⟩
abbrev cX11_parts : ByteArray := prog_1_method_20_code
def yX11_parts : MethodName := ⟨RX11, "parts", "()I"⟩
abbrev cX11_follows : ByteArray := prog_1_method_21_code
def yX11_follows : MethodName := ⟨RX11, "follows", "(III)I"⟩
abbrev cX11_lure : ByteArray := prog_1_method_22_code
def yX11_lure : MethodName := ⟨RX11, "lure", "(II)I"⟩
abbrev cX11_lureRow : ByteArray := prog_1_method_23_code
def yX11_lureRow : MethodName := ⟨RX11, "lureRow", "(II)I"⟩
abbrev cX11_lures : ByteArray := prog_1_method_24_code
def yX11_lures : MethodName := ⟨RX11, "lures", "(II)I"⟩
abbrev cX11_company : ByteArray := prog_1_method_25_code
def yX11_company : MethodName := ⟨RX11, "company", "(I)I"⟩
abbrev cX11_lonely : ByteArray := prog_1_method_26_code
def yX11_lonely : MethodName := ⟨RX11, "lonely", "()I"⟩
abbrev cX11_owes : ByteArray := prog_1_method_27_code
def yX11_owes : MethodName := ⟨RX11, "owes", "(I)I"⟩
abbrev cX11_ring : ByteArray := prog_1_method_28_code
def yX11_ring : MethodName := ⟨RX11, "ring", "(I)I"⟩
abbrev cX11_ringAt : ByteArray := prog_1_method_29_code
def yX11_ringAt : MethodName := ⟨RX11, "ringAt", "(II)I"⟩
abbrev cX11_amends : ByteArray := prog_1_method_30_code
def yX11_amends : MethodName := ⟨RX11, "amends", "()I"⟩
abbrev cX11_robbed : ByteArray := prog_1_method_31_code
def yX11_robbed : MethodName := ⟨RX11, "robbed", "()I"⟩
abbrev cX11_fits : ByteArray := prog_1_method_32_code
def yX11_fits : MethodName := ⟨RX11, "fits", "(I)I"⟩
abbrev cX11_fitAt : ByteArray := prog_1_method_33_code
def yX11_fitAt : MethodName := ⟨RX11, "fitAt", "(II)I"⟩
abbrev cX11_could : ByteArray := prog_1_method_34_code
def yX11_could : MethodName := ⟨RX11, "could", "(I)I"⟩
abbrev cX11_surely : ByteArray := prog_1_method_35_code
def yX11_surely : MethodName := ⟨RX11, "surely", "(I)I"⟩
abbrev cX11_ask : ByteArray := prog_1_method_36_code
def yX11_ask : MethodName := ⟨RX11, "ask", "(I)I"⟩
abbrev cX11_askLeaves : ByteArray := prog_1_method_37_code
def yX11_askLeaves : MethodName := ⟨RX11, "askLeaves", "(I)I"⟩
abbrev cX11_edge : ByteArray := prog_1_method_38_code
def yX11_edge : MethodName := ⟨RX11, "edge", "(IZZZ)I"⟩
abbrev cX11_rests : ByteArray := prog_1_method_39_code
def yX11_rests : MethodName := ⟨RX11, "rests", "(I)I"⟩
abbrev cX11_rest : ByteArray := prog_1_method_40_code
def yX11_rest : MethodName := ⟨RX11, "rest", "(I)I"⟩
abbrev cX11_breathes : ByteArray := prog_1_method_41_code
def yX11_breathes : MethodName := ⟨RX11, "breathes", "(IIZ)J"⟩
abbrev cX11_silent : ByteArray := prog_1_method_42_code
def yX11_silent : MethodName := ⟨RX11, "silent", "(IZ)J"⟩
abbrev cX11_mean : ByteArray := prog_1_method_43_code
def yX11_mean : MethodName := ⟨RX11, "mean", "(IZ)J"⟩
abbrev cX11_rambles : ByteArray := prog_1_method_44_code
def yX11_rambles : MethodName := ⟨RX11, "rambles", "(III)I"⟩
abbrev cX11_stands : ByteArray := prog_1_method_45_code
def yX11_stands : MethodName := ⟨RX11, "stands", "(III)I"⟩
abbrev cX11_meet : ByteArray := prog_1_method_46_code
def yX11_meet : MethodName := ⟨RX11, "meet", "(II)I"⟩
abbrev cX11_step : ByteArray := prog_1_method_47_code
def yX11_step : MethodName := ⟨RX11, "step", "(II)I"⟩
abbrev cX11_take : ByteArray := prog_1_method_48_code
def yX11_take : MethodName := ⟨RX11, "take", "(II)I"⟩
abbrev cX11_light : ByteArray := prog_1_method_49_code
def yX11_light : MethodName := ⟨RX11, "light", "(IZ)Z"⟩
abbrev cX11_undo : ByteArray := prog_1_method_50_code
def yX11_undo : MethodName := ⟨RX11, "undo", "()Z"⟩
abbrev cX11_image : ByteArray := prog_1_method_51_code
def yX11_image : MethodName := ⟨RX11, "image", "()I"⟩
abbrev cX11_back : ByteArray := prog_1_method_52_code
def yX11_back : MethodName := ⟨RX11, "back", "(I)Z"⟩
abbrev cX11_led : ByteArray := prog_1_method_53_code
def yX11_led : MethodName := ⟨RX11, "led", "(I)I"⟩
abbrev cX11_size : ByteArray := prog_1_method_54_code
def yX11_size : MethodName := ⟨RX11, "size", "(I)I"⟩
abbrev cX11_trouble : ByteArray := prog_1_method_55_code
def yX11_trouble : MethodName := ⟨RX11, "trouble", "()I"⟩
abbrev cX11_answer : ByteArray := prog_1_method_56_code
def yX11_answer : MethodName := ⟨RX11, "answer", "(I)I"⟩
abbrev cX11_refuse : ByteArray := prog_1_method_57_code
def yX11_refuse : MethodName := ⟨RX11, "refuse", "(I)I"⟩
abbrev cX11_settle : ByteArray := prog_1_method_58_code
def yX11_settle : MethodName := ⟨RX11, "settle", "(I)Z"⟩
abbrev cX11_places : ByteArray := prog_1_method_59_code
def yX11_places : MethodName := ⟨RX11, "places", "()I"⟩
abbrev cX11_men : ByteArray := prog_1_method_60_code
def yX11_men : MethodName := ⟨RX11, "men", "()I"⟩
abbrev cX11_kills : ByteArray := prog_1_method_61_code
def yX11_kills : MethodName := ⟨RX11, "kills", "()I"⟩
abbrev cX11_isForest : ByteArray := prog_1_method_62_code
def yX11_isForest : MethodName := ⟨RX11, "isForest", "()Z"⟩
abbrev cX11_isPlace : ByteArray := prog_1_method_63_code
def yX11_isPlace : MethodName := ⟨RX11, "isPlace", "(I)Z"⟩
abbrev cX11_isMan : ByteArray := prog_1_method_64_code
def yX11_isMan : MethodName := ⟨RX11, "isMan", "(I)Z"⟩
abbrev cX11_isKill : ByteArray := prog_1_method_65_code
def yX11_isKill : MethodName := ⟨RX11, "isKill", "(I)Z"⟩
abbrev cX11_isStray : ByteArray := prog_1_method_66_code
def yX11_isStray : MethodName := ⟨RX11, "isStray", "(I)Z"⟩
abbrev cX11_isRow : ByteArray := prog_1_method_67_code
def yX11_isRow : MethodName := ⟨RX11, "isRow", "(II)Z"⟩
abbrev cX11_isRamble : ByteArray := prog_1_method_68_code
def yX11_isRamble : MethodName := ⟨RX11, "isRamble", "(II)Z"⟩
abbrev cX11_refusesWorth : ByteArray := prog_1_method_69_code
def yX11_refusesWorth : MethodName := ⟨RX11, "refusesWorth", "(I)Z"⟩
abbrev cX11_has : ByteArray := prog_1_method_70_code
def yX11_has : MethodName := ⟨RX11, "has", "(II)Z"⟩
def RX12 : String := "KillFollowsModel"
def TX12 : u_T := fun k => match k with
  | 0 => ("KillFollowsModel", "thrown", "I", false)
  | 1 => ("KillFollowsModel", "tape", "[I", true)
  | 2 => ("KillFollowsModel", "taped", "I", false)
  | 3 => ("KillFollowsModel", "size", "I", false)
  | 4 => ("KillFollowsModel", "at", "I", false)
  | 5 => ("KillFollowsModel", "end", "I", false)
  | 6 => ("KillFollowsModel", "token", "I", false)
  | 7 => ("KillFollowsModel", "whole", "I", false)
  | 8 => ("KillFollowsModel", "nameSize", "I", false)
  | 9 => ("KillFollowsModel", "fault", "I", false)
  | 10 => ("KillFollowsModel", "place", "I", false)
  | 11 => ("KillFollowsModel", "trouble", "I", false)
  | 12 => ("KillFollowsModel", "letters", "[I", true)
  | 13 => ("KillFollowsModel", "failed", "Z", false)
  | 14 => ("KillFollowsModel", "hasForest", "Z", false)
  | 15 => ("KillFollowsModel", "\x72", "[I", true)
  | 16 => ("KillFollowsModel", "fresh", "[I", true)
  | 17 => ("KillFollowsModel", "first", "[I", true)
  | 18 => ("KillFollowsModel", "read", "[I", true)
  | 19 => ("KillFollowsModel", "st", "[I", true)
  | 20 => ("KillFollowsModel", "undone", "[I", true)
  | 21 => ("KillFollowsModel", "kept", "[I", true)
  | 22 => ("KillFollowsModel", "undos", "I", false)
  | 23 => ("KillFollowsModel", "images", "I", false)
  | 24 => ("KillFollowsModel", "trial", "[I", true)
  | 25 => ("KillFollowsModel", "levels", "[I", true)
  | 26 => ("KillFollowsModel", "level", "[I", true)
  | 27 => ("KillFollowsModel", "lureIn", "I", false)
  | 28 => ("KillFollowsModel", "way", "[I", true)
  | 29 => ("KillFollowsModel", "ring", "[I", true)
  | 30 => ("KillFollowsModel", "ringMany", "I", false)
  | 31 => ("KillFollowsModel", "firstRest", "I", false)
  | _ => ("KillFollowsModel", "metAt", "I", false)
def tyX12 : Nat → FieldType := fun k => match k with
  | 0 => .int
  | 1 => .array .int
  | 2 => .int
  | 3 => .int
  | 4 => .int
  | 5 => .int
  | 6 => .int
  | 7 => .int
  | 8 => .int
  | 9 => .int
  | 10 => .int
  | 11 => .int
  | 12 => .array .int
  | 13 => .boolean
  | 14 => .boolean
  | 15 => .array .int
  | 16 => .array .int
  | 17 => .array .int
  | 18 => .array .int
  | 19 => .array .int
  | 20 => .array .int
  | 21 => .array .int
  | 22 => .int
  | 23 => .int
  | 24 => .array .int
  | 25 => .array .int
  | 26 => .array .int
  | 27 => .int
  | 28 => .array .int
  | 29 => .array .int
  | 30 => .int
  | 31 => .int
  | _ => .int
abbrev wsX120 : List Cond := u_ws RX12 TX12 33
theorem nmX12 : ∀ a, a < 33 → ∀ b, b < 33 → a ≠ b → (TX12 a).2.1 ≠ (TX12 b).2.1 := by decide +kernel
theorem tyX12_ok : ∀ k, k < 33 → parseFieldDescriptor (TX12 k).2.2.1 = some (tyX12 k) := by decide +kernel
abbrev cX12_init : ByteArray := prog_14_method_1_code
def yX12_init : MethodName := ⟨RX12, "<init>", "()V"⟩
abbrev cX12_thrown : ByteArray := prog_14_method_2_code
def yX12_thrown : MethodName := ⟨RX12, "thrown", "()I"⟩
abbrev cX12_good : ByteArray := prog_14_method_3_code
def yX12_good : MethodName := ⟨RX12, "good", "()V"⟩
abbrev cX12_no : ByteArray := prog_14_method_4_code
def yX12_no : MethodName := ⟨RX12, "no", "(I)I"⟩
abbrev cX12_isNot : ByteArray := prog_14_method_5_code
def yX12_isNot : MethodName := ⟨RX12, "isNot", "(I)Z"⟩
abbrev cX12_in : ByteArray := prog_14_method_6_code
def yX12_in : MethodName := ⟨RX12, "in", "(III)Z"⟩
abbrev cX12_hasBit : ByteArray := prog_14_method_7_code
def yX12_hasBit : MethodName := ⟨RX12, "hasBit", "(II)Z"⟩
abbrev cX12_ones : ByteArray := prog_14_method_8_code
def yX12_ones : MethodName := ⟨RX12, "ones", "(I)I"⟩
abbrev cX12_copy : ByteArray := prog_14_method_9_code
def yX12_copy : MethodName := ⟨RX12, "copy", "([II[III)V"⟩
abbrev cX12_lowest : ByteArray := prog_14_method_10_code
def yX12_lowest : MethodName := ⟨RX12, "lowest", "(JJZ)J"⟩
abbrev cX12_power : ByteArray := prog_14_method_11_code
def yX12_power : MethodName := ⟨RX12, "power", "(JI)J"⟩
abbrev cX12_feed : ByteArray := prog_14_method_12_code
def yX12_feed : MethodName := ⟨RX12, "feed", "(IIIII)I"⟩
abbrev cX12_see : ByteArray := prog_14_method_13_code
def yX12_see : MethodName := ⟨RX12, "see", "(I)I"⟩
abbrev cX12_isSmall : ByteArray := prog_14_method_14_code
def yX12_isSmall : MethodName := ⟨RX12, "isSmall", "(I)Z"⟩
abbrev cX12_isDigit : ByteArray := prog_14_method_15_code
def yX12_isDigit : MethodName := ⟨RX12, "isDigit", "(I)Z"⟩
abbrev cX12_goOn : ByteArray := prog_14_method_16_code
def yX12_goOn : MethodName := ⟨RX12, "goOn", "()V"⟩
abbrev cX12_wrong : ByteArray := prog_14_method_17_code
def yX12_wrong : MethodName := ⟨RX12, "wrong", "(II)V"⟩
abbrev cX12_isWord : ByteArray := prog_14_method_18_code
def yX12_isWord : MethodName := ⟨RX12, "isWord", "(Ljava/lang/String;)Z"⟩
abbrev cX12_takesWord : ByteArray := prog_14_method_19_code
def yX12_takesWord : MethodName := ⟨RX12, "takesWord", "(Ljava/lang/String;)Z"⟩
abbrev cX12_must : ByteArray := prog_14_method_20_code
def yX12_must : MethodName := ⟨RX12, "must", "(Ljava/lang/String;)V"⟩
abbrev cX12_mustName : ByteArray := prog_14_method_21_code
def yX12_mustName : MethodName := ⟨RX12, "mustName", "()V"⟩
abbrev cX12_find : ByteArray := prog_14_method_22_code
def yX12_find : MethodName := ⟨RX12, "find", "()I"⟩
abbrev cX12_newName : ByteArray := prog_14_method_23_code
def yX12_newName : MethodName := ⟨RX12, "newName", "(I)V"⟩
abbrev cX12_named : ByteArray := prog_14_method_24_code
def yX12_named : MethodName := ⟨RX12, "named", "(II)I"⟩
abbrev cX12_placeHere : ByteArray := prog_14_method_25_code
def yX12_placeHere : MethodName := ⟨RX12, "placeHere", "()I"⟩
abbrev cX12_manHere : ByteArray := prog_14_method_26_code
def yX12_manHere : MethodName := ⟨RX12, "manHere", "()I"⟩
abbrev cX12_pass : ByteArray := prog_14_method_27_code
def yX12_pass : MethodName := ⟨RX12, "pass", "()V"⟩
abbrev cX12_placePassed : ByteArray := prog_14_method_28_code
def yX12_placePassed : MethodName := ⟨RX12, "placePassed", "()I"⟩
abbrev cX12_manPassed : ByteArray := prog_14_method_29_code
def yX12_manPassed : MethodName := ⟨RX12, "manPassed", "()I"⟩
abbrev cX12_after : ByteArray := prog_14_method_30_code
def yX12_after : MethodName := ⟨RX12, "after", "(Ljava/lang/String;II)I"⟩
abbrev cX12_forest : ByteArray := prog_14_method_31_code
def yX12_forest : MethodName := ⟨RX12, "forest", "(I)I"⟩
abbrev cX12_begins : ByteArray := prog_14_method_32_code
def yX12_begins : MethodName := ⟨RX12, "begins", "(Ljava/lang/String;Z)Z"⟩
abbrev cX12_readLine : ByteArray := prog_14_method_33_code
def yX12_readLine : MethodName := ⟨RX12, "readLine", "()V"⟩
abbrev cX12_forestLine : ByteArray := prog_14_method_34_code
def yX12_forestLine : MethodName := ⟨RX12, "forestLine", "()V"⟩
abbrev cX12_placeLine : ByteArray := prog_14_method_35_code
def yX12_placeLine : MethodName := ⟨RX12, "placeLine", "()V"⟩
abbrev cX12_pathLine : ByteArray := prog_14_method_36_code
def yX12_pathLine : MethodName := ⟨RX12, "pathLine", "()V"⟩
abbrev cX12_manLine : ByteArray := prog_14_method_37_code
def yX12_manLine : MethodName := ⟨RX12, "manLine", "()V"⟩
abbrev cX12_stepOf : ByteArray := prog_14_method_38_code
def yX12_stepOf : MethodName := ⟨RX12, "stepOf", "([III)V"⟩
abbrev cX12_walkLine : ByteArray := prog_14_method_39_code
def yX12_walkLine : MethodName := ⟨RX12, "walkLine", "()V"⟩
abbrev cX12_killLine : ByteArray := prog_14_method_40_code
def yX12_killLine : MethodName := ⟨RX12, "killLine", "()V"⟩
abbrev cX12_takenLine : ByteArray := prog_14_method_41_code
def yX12_takenLine : MethodName := ⟨RX12, "takenLine", "()V"⟩
abbrev cX12_strayLine : ByteArray := prog_14_method_42_code
def yX12_strayLine : MethodName := ⟨RX12, "strayLine", "()V"⟩
abbrev cX12_fault : ByteArray := prog_14_method_43_code
def yX12_fault : MethodName := ⟨RX12, "fault", "()I"⟩
abbrev cX12_where : ByteArray := prog_14_method_44_code
def yX12_where : MethodName := ⟨RX12, "where", "()I"⟩
abbrev cX12_isPlace : ByteArray := prog_14_method_45_code
def yX12_isPlace : MethodName := ⟨RX12, "isPlace", "(I)Z"⟩
abbrev cX12_isMan : ByteArray := prog_14_method_46_code
def yX12_isMan : MethodName := ⟨RX12, "isMan", "(I)Z"⟩
abbrev cX12_isKill : ByteArray := prog_14_method_47_code
def yX12_isKill : MethodName := ⟨RX12, "isKill", "(I)Z"⟩
abbrev cX12_behindOf : ByteArray := prog_14_method_48_code
def yX12_behindOf : MethodName := ⟨RX12, "behindOf", "(II)I"⟩
abbrev cX12_darkBehind : ByteArray := prog_14_method_49_code
def yX12_darkBehind : MethodName := ⟨RX12, "darkBehind", "([III)I"⟩
abbrev cX12_standsOf : ByteArray := prog_14_method_50_code
def yX12_standsOf : MethodName := ⟨RX12, "standsOf", "([II)I"⟩
abbrev cX12_killsAt : ByteArray := prog_14_method_51_code
def yX12_killsAt : MethodName := ⟨RX12, "killsAt", "(I)I"⟩
abbrev cX12_isCrowded : ByteArray := prog_14_method_52_code
def yX12_isCrowded : MethodName := ⟨RX12, "isCrowded", "(I)Z"⟩
abbrev cX12_followersOf : ByteArray := prog_14_method_53_code
def yX12_followersOf : MethodName := ⟨RX12, "followersOf", "(I)I"⟩
abbrev cX12_shotBy : ByteArray := prog_14_method_54_code
def yX12_shotBy : MethodName := ⟨RX12, "shotBy", "(I)I"⟩
abbrev cX12_worthOf : ByteArray := prog_14_method_55_code
def yX12_worthOf : MethodName := ⟨RX12, "worthOf", "(I)I"⟩
abbrev cX12_menAt : ByteArray := prog_14_method_56_code
def yX12_menAt : MethodName := ⟨RX12, "menAt", "(I)I"⟩
abbrev cX12_place : ByteArray := prog_14_method_57_code
def yX12_place : MethodName := ⟨RX12, "place", "(II)I"⟩
abbrev cX12_man : ByteArray := prog_14_method_58_code
def yX12_man : MethodName := ⟨RX12, "man", "(II)I"⟩
abbrev cX12_kill : ByteArray := prog_14_method_59_code
def yX12_kill : MethodName := ⟨RX12, "kill", "(II)I"⟩
abbrev cX12_why : ByteArray := prog_14_method_60_code
def yX12_why : MethodName := ⟨RX12, "why", "(ZZ)I"⟩
abbrev cX12_trail : ByteArray := prog_14_method_61_code
def yX12_trail : MethodName := ⟨RX12, "trail", "(II)I"⟩
abbrev cX12_crowded : ByteArray := prog_14_method_62_code
def yX12_crowded : MethodName := ⟨RX12, "crowded", "()I"⟩
abbrev cX12_leader : ByteArray := prog_14_method_63_code
def yX12_leader : MethodName := ⟨RX12, "leader", "()I"⟩
abbrev cX12_near : ByteArray := prog_14_method_64_code
def yX12_near : MethodName := ⟨RX12, "near", "(I)I"⟩
abbrev cX12_room : ByteArray := prog_14_method_65_code
def yX12_room : MethodName := ⟨RX12, "room", "()I"⟩
abbrev cX12_spread : ByteArray := prog_14_method_66_code
def yX12_spread : MethodName := ⟨RX12, "spread", "(II)I"⟩
abbrev cX12_stepsTo : ByteArray := prog_14_method_67_code
def yX12_stepsTo : MethodName := ⟨RX12, "stepsTo", "(III)I"⟩
abbrev cX12_reachOf : ByteArray := prog_14_method_68_code
def yX12_reachOf : MethodName := ⟨RX12, "reachOf", "(II)I"⟩
abbrev cX12_apart : ByteArray := prog_14_method_69_code
def yX12_apart : MethodName := ⟨RX12, "apart", "(II)I"⟩
abbrev cX12_next : ByteArray := prog_14_method_70_code
def yX12_next : MethodName := ⟨RX12, "next", "(II)I"⟩
abbrev cX12_seenBy : ByteArray := prog_14_method_71_code
def yX12_seenBy : MethodName := ⟨RX12, "seenBy", "(I)I"⟩
abbrev cX12_unseen : ByteArray := prog_14_method_72_code
def yX12_unseen : MethodName := ⟨RX12, "unseen", "(II)I"⟩
abbrev cX12_safe : ByteArray := prog_14_method_73_code
def yX12_safe : MethodName := ⟨RX12, "safe", "(I)I"⟩
abbrev cX12_cut : ByteArray := prog_14_method_74_code
def yX12_cut : MethodName := ⟨RX12, "cut", "(II)I"⟩
abbrev cX12_farthestOf : ByteArray := prog_14_method_75_code
def yX12_farthestOf : MethodName := ⟨RX12, "farthestOf", "(I)I"⟩
abbrev cX12_middle : ByteArray := prog_14_method_76_code
def yX12_middle : MethodName := ⟨RX12, "middle", "()I"⟩
abbrev cX12_parts : ByteArray := prog_14_method_77_code
def yX12_parts : MethodName := ⟨RX12, "parts", "()I"⟩
abbrev cX12_follows : ByteArray := prog_14_method_78_code
def yX12_follows : MethodName := ⟨RX12, "follows", "(III)I"⟩
abbrev cX12_lureFrom : ByteArray := prog_14_method_79_code
def yX12_lureFrom : MethodName := ⟨RX12, "lureFrom", "(IIII)I"⟩
abbrev cX12_lureOf : ByteArray := prog_14_method_80_code
def yX12_lureOf : MethodName := ⟨RX12, "lureOf", "(II)I"⟩
abbrev cX12_lure : ByteArray := prog_14_method_81_code
def yX12_lure : MethodName := ⟨RX12, "lure", "(II)I"⟩
abbrev cX12_lureRow : ByteArray := prog_14_method_82_code
def yX12_lureRow : MethodName := ⟨RX12, "lureRow", "(II)I"⟩
abbrev cX12_lures : ByteArray := prog_14_method_83_code
def yX12_lures : MethodName := ⟨RX12, "lures", "(II)I"⟩
abbrev cX12_farOf : ByteArray := prog_14_method_84_code
def yX12_farOf : MethodName := ⟨RX12, "farOf", "(II)I"⟩
abbrev cX12_isCompany : ByteArray := prog_14_method_85_code
def yX12_isCompany : MethodName := ⟨RX12, "isCompany", "(II)Z"⟩
abbrev cX12_company : ByteArray := prog_14_method_86_code
def yX12_company : MethodName := ⟨RX12, "company", "(I)I"⟩
abbrev cX12_nearestOf : ByteArray := prog_14_method_87_code
def yX12_nearestOf : MethodName := ⟨RX12, "nearestOf", "(I)I"⟩
abbrev cX12_lonely : ByteArray := prog_14_method_88_code
def yX12_lonely : MethodName := ⟨RX12, "lonely", "()I"⟩
abbrev cX12_owesOf : ByteArray := prog_14_method_89_code
def yX12_owesOf : MethodName := ⟨RX12, "owesOf", "(I)I"⟩
abbrev cX12_owes : ByteArray := prog_14_method_90_code
def yX12_owes : MethodName := ⟨RX12, "owes", "(I)I"⟩
abbrev cX12_tryRing : ByteArray := prog_14_method_91_code
def yX12_tryRing : MethodName := ⟨RX12, "tryRing", "(II)V"⟩
abbrev cX12_seekRing : ByteArray := prog_14_method_92_code
def yX12_seekRing : MethodName := ⟨RX12, "seekRing", "(I)Z"⟩
abbrev cX12_ring : ByteArray := prog_14_method_93_code
def yX12_ring : MethodName := ⟨RX12, "ring", "(I)I"⟩
abbrev cX12_ringAt : ByteArray := prog_14_method_94_code
def yX12_ringAt : MethodName := ⟨RX12, "ringAt", "(II)I"⟩
abbrev cX12_amends : ByteArray := prog_14_method_95_code
def yX12_amends : MethodName := ⟨RX12, "amends", "()I"⟩
abbrev cX12_robbed : ByteArray := prog_14_method_96_code
def yX12_robbed : MethodName := ⟨RX12, "robbed", "()I"⟩
abbrev cX12_isStray : ByteArray := prog_14_method_97_code
def yX12_isStray : MethodName := ⟨RX12, "isStray", "(I)Z"⟩
abbrev cX12_doesFit : ByteArray := prog_14_method_98_code
def yX12_doesFit : MethodName := ⟨RX12, "doesFit", "(III)Z"⟩
abbrev cX12_fitting : ByteArray := prog_14_method_99_code
def yX12_fitting : MethodName := ⟨RX12, "fitting", "(II)I"⟩
abbrev cX12_fits : ByteArray := prog_14_method_100_code
def yX12_fits : MethodName := ⟨RX12, "fits", "(I)I"⟩
abbrev cX12_fitAt : ByteArray := prog_14_method_101_code
def yX12_fitAt : MethodName := ⟨RX12, "fitAt", "(II)I"⟩
abbrev cX12_could : ByteArray := prog_14_method_102_code
def yX12_could : MethodName := ⟨RX12, "could", "(I)I"⟩
abbrev cX12_surely : ByteArray := prog_14_method_103_code
def yX12_surely : MethodName := ⟨RX12, "surely", "(I)I"⟩
abbrev cX12_leavesOf : ByteArray := prog_14_method_104_code
def yX12_leavesOf : MethodName := ⟨RX12, "leavesOf", "(II)I"⟩
abbrev cX12_askOf : ByteArray := prog_14_method_105_code
def yX12_askOf : MethodName := ⟨RX12, "askOf", "(I)I"⟩
abbrev cX12_ask : ByteArray := prog_14_method_106_code
def yX12_ask : MethodName := ⟨RX12, "ask", "(I)I"⟩
abbrev cX12_askLeaves : ByteArray := prog_14_method_107_code
def yX12_askLeaves : MethodName := ⟨RX12, "askLeaves", "(I)I"⟩
abbrev cX12_keepers : ByteArray := prog_14_method_108_code
def yX12_keepers : MethodName := ⟨RX12, "keepers", "(IZZ)I"⟩
abbrev cX12_poachers : ByteArray := prog_14_method_109_code
def yX12_poachers : MethodName := ⟨RX12, "poachers", "(IZZ)I"⟩
abbrev cX12_edge : ByteArray := prog_14_method_110_code
def yX12_edge : MethodName := ⟨RX12, "edge", "(IZZZ)I"⟩
abbrev cX12_isRest : ByteArray := prog_14_method_111_code
def yX12_isRest : MethodName := ⟨RX12, "isRest", "(IZZ)Z"⟩
abbrev cX12_seekRests : ByteArray := prog_14_method_112_code
def yX12_seekRests : MethodName := ⟨RX12, "seekRests", "(I)I"⟩
abbrev cX12_rests : ByteArray := prog_14_method_113_code
def yX12_rests : MethodName := ⟨RX12, "rests", "(I)I"⟩
abbrev cX12_rest : ByteArray := prog_14_method_114_code
def yX12_rest : MethodName := ⟨RX12, "rest", "(I)I"⟩
abbrev cX12_deadBy : ByteArray := prog_14_method_115_code
def yX12_deadBy : MethodName := ⟨RX12, "deadBy", "(I)J"⟩
abbrev cX12_breathes : ByteArray := prog_14_method_116_code
def yX12_breathes : MethodName := ⟨RX12, "breathes", "(IIZ)J"⟩
abbrev cX12_silent : ByteArray := prog_14_method_117_code
def yX12_silent : MethodName := ⟨RX12, "silent", "(IZ)J"⟩
abbrev cX12_mean : ByteArray := prog_14_method_118_code
def yX12_mean : MethodName := ⟨RX12, "mean", "(IZ)J"⟩
abbrev cX12_areMet : ByteArray := prog_14_method_119_code
def yX12_areMet : MethodName := ⟨RX12, "areMet", "()Z"⟩
abbrev cX12_rambleWhy : ByteArray := prog_14_method_120_code
def yX12_rambleWhy : MethodName := ⟨RX12, "rambleWhy", "(ZII)I"⟩
abbrev cX12_rambles : ByteArray := prog_14_method_121_code
def yX12_rambles : MethodName := ⟨RX12, "rambles", "(III)I"⟩
abbrev cX12_stands : ByteArray := prog_14_method_122_code
def yX12_stands : MethodName := ⟨RX12, "stands", "(III)I"⟩
abbrev cX12_meet : ByteArray := prog_14_method_123_code
def yX12_meet : MethodName := ⟨RX12, "meet", "(II)I"⟩
abbrev cX12_note : ByteArray := prog_14_method_124_code
def yX12_note : MethodName := ⟨RX12, "note", "()V"⟩
abbrev cX12_step : ByteArray := prog_14_method_125_code
def yX12_step : MethodName := ⟨RX12, "step", "(II)I"⟩
abbrev cX12_take : ByteArray := prog_14_method_126_code
def yX12_take : MethodName := ⟨RX12, "take", "(II)I"⟩
abbrev cX12_light : ByteArray := prog_14_method_127_code
def yX12_light : MethodName := ⟨RX12, "light", "(IZ)Z"⟩
abbrev cX12_undo : ByteArray := prog_14_method_128_code
def yX12_undo : MethodName := ⟨RX12, "undo", "()Z"⟩
abbrev cX12_image : ByteArray := prog_14_method_129_code
def yX12_image : MethodName := ⟨RX12, "image", "()I"⟩
abbrev cX12_back : ByteArray := prog_14_method_130_code
def yX12_back : MethodName := ⟨RX12, "back", "(I)Z"⟩
abbrev cX12_led : ByteArray := prog_14_method_131_code
def yX12_led : MethodName := ⟨RX12, "led", "(I)I"⟩
abbrev cX12_size : ByteArray := prog_14_method_132_code
def yX12_size : MethodName := ⟨RX12, "size", "(I)I"⟩
abbrev cX12_trouble : ByteArray := prog_14_method_133_code
def yX12_trouble : MethodName := ⟨RX12, "trouble", "()I"⟩
def RJx145de : String := "java/io/Serializable"
def TJx145de : u_T := fun k => match k with
  | _ => ("", "", "", false)
def tyJx145de : Nat → FieldType := fun k => match k with
  | _ => .int
theorem nmJx145de : ∀ a, a < 0 → ∀ b, b < 0 → a ≠ b → (TJx145de a).2.1 ≠ (TJx145de b).2.1 := by decide +kernel
theorem tyJx145de_ok : ∀ k, k < 0 → parseFieldDescriptor (TJx145de k).2.2.1 = some (tyJx145de k) := by decide +kernel
def RJx9f9b0 : String := "java/lang/CharSequence"
def TJx9f9b0 : u_T := fun k => match k with
  | _ => ("", "", "", false)
def tyJx9f9b0 : Nat → FieldType := fun k => match k with
  | _ => .int
theorem nmJx9f9b0 : ∀ a, a < 0 → ∀ b, b < 0 → a ≠ b → (TJx9f9b0 a).2.1 ≠ (TJx9f9b0 b).2.1 := by decide +kernel
theorem tyJx9f9b0_ok : ∀ k, k < 0 → parseFieldDescriptor (TJx9f9b0 k).2.2.1 = some (tyJx9f9b0 k) := by decide +kernel
def RJxb160c : String := "java/lang/Comparable"
def TJxb160c : u_T := fun k => match k with
  | _ => ("", "", "", false)
def tyJxb160c : Nat → FieldType := fun k => match k with
  | _ => .int
theorem nmJxb160c : ∀ a, a < 0 → ∀ b, b < 0 → a ≠ b → (TJxb160c a).2.1 ≠ (TJxb160c b).2.1 := by decide +kernel
theorem tyJxb160c_ok : ∀ k, k < 0 → parseFieldDescriptor (TJxb160c k).2.2.1 = some (tyJxb160c k) := by decide +kernel
def RJ6 : String := "java/lang/Integer"
def TJ6 : u_T := fun k => match k with
  | _ => ("", "", "", false)
def tyJ6 : Nat → FieldType := fun k => match k with
  | _ => .int
abbrev wsJ60 : List Cond := u_ws RJ6 TJ6 0
theorem nmJ6 : ∀ a, a < 0 → ∀ b, b < 0 → a ≠ b → (TJ6 a).2.1 ≠ (TJ6 b).2.1 := by decide +kernel
theorem tyJ6_ok : ∀ k, k < 0 → parseFieldDescriptor (TJ6 k).2.2.1 = some (tyJ6 k) := by decide +kernel
abbrev cJ6_bitCount_0f7a4 : ByteArray := prog_19_method_49_code
def yJ6_bitCount_0f7a4 : MethodName := ⟨RJ6, "bitCount", "(I)I"⟩
def RJ9 : String := "java/lang/Math"
def TJ9 : u_T := fun k => match k with
  | _ => ("", "", "", false)
def tyJ9 : Nat → FieldType := fun k => match k with
  | _ => .int
abbrev wsJ90 : List Cond := u_ws RJ9 TJ9 0
theorem nmJ9 : ∀ a, a < 0 → ∀ b, b < 0 → a ≠ b → (TJ9 a).2.1 ≠ (TJ9 b).2.1 := by decide +kernel
theorem tyJ9_ok : ∀ k, k < 0 → parseFieldDescriptor (TJ9 k).2.2.1 = some (tyJ9 k) := by decide +kernel
abbrev cJ9_max_7cf53 : ByteArray := prog_20_method_65_code
def yJ9_max_7cf53 : MethodName := ⟨RJ9, "max", "(II)I"⟩
abbrev cJ9_min_7cf53 : ByteArray := prog_20_method_69_code
def yJ9_min_7cf53 : MethodName := ⟨RJ9, "min", "(II)I"⟩
def RJ0 : String := "java/lang/String"
def TJ0 : u_T := fun k => match k with
  | _ => ("", "", "", false)
def tyJ0 : Nat → FieldType := fun k => match k with
  | _ => .int
abbrev wsJ00 : List Cond := u_ws RJ0 TJ0 0
theorem nmJ0 : ∀ a, a < 0 → ∀ b, b < 0 → a ≠ b → (TJ0 a).2.1 ≠ (TJ0 b).2.1 := by decide +kernel
theorem tyJ0_ok : ∀ k, k < 0 → parseFieldDescriptor (TJ0 k).2.2.1 = some (tyJ0 k) := by decide +kernel
abbrev cJ0_length_8abf5 : ByteArray := prog_22_method_54_code
def yJ0_length_8abf5 : MethodName := ⟨RJ0, "length", "()I"⟩
abbrev cJ0_charAt_5068e : ByteArray := prog_22_method_56_code
def yJ0_charAt_5068e : MethodName := ⟨RJ0, "charAt", "(I)C"⟩
abbrev cJ0_coder_7d493 : ByteArray := prog_22_method_152_code
def yJ0_coder_7d493 : MethodName := ⟨RJ0, "coder", "()B"⟩
abbrev cJ0_isLatin1_aae02 : ByteArray := prog_22_method_154_code
def yJ0_isLatin1_aae02 : MethodName := ⟨RJ0, "isLatin1", "()Z"⟩
abbrev cJ0_checkIndex_df160 : ByteArray := prog_22_method_155_code
def yJ0_checkIndex_df160 : MethodName := ⟨RJ0, "checkIndex", "(II)V"⟩
def RJ1 : String := "java/lang/StringLatin1"
def TJ1 : u_T := fun k => match k with
  | _ => ("", "", "", false)
def tyJ1 : Nat → FieldType := fun k => match k with
  | _ => .int
abbrev wsJ10 : List Cond := u_ws RJ1 TJ1 0
theorem nmJ1 : ∀ a, a < 0 → ∀ b, b < 0 → a ≠ b → (TJ1 a).2.1 ≠ (TJ1 b).2.1 := by decide +kernel
theorem tyJ1_ok : ∀ k, k < 0 → parseFieldDescriptor (TJ1 k).2.2.1 = some (tyJ1 k) := by decide +kernel
abbrev cJ1_charAt_3b067 : ByteArray := prog_23_method_2_code
def yJ1_charAt_3b067 : MethodName := ⟨RJ1, "charAt", "([BI)C"⟩
def RJ2 : String := "java/lang/StringUTF16"
def TJ2 : u_T := fun k => match k with
  | _ => ("", "", "", false)
def tyJ2 : Nat → FieldType := fun k => match k with
  | _ => .int
abbrev wsJ20 : List Cond := u_ws RJ2 TJ2 0
theorem nmJ2 : ∀ a, a < 0 → ∀ b, b < 0 → a ≠ b → (TJ2 a).2.1 ≠ (TJ2 b).2.1 := by decide +kernel
theorem tyJ2_ok : ∀ k, k < 0 → parseFieldDescriptor (TJ2 k).2.2.1 = some (tyJ2 k) := by decide +kernel
abbrev cJ2_getChar_3b067 : ByteArray := prog_24_method_5_code
def yJ2_getChar_3b067 : MethodName := ⟨RJ2, "getChar", "([BI)C"⟩
abbrev cJ2_length_9d52b : ByteArray := prog_24_method_6_code
def yJ2_length_9d52b : MethodName := ⟨RJ2, "length", "([B)I"⟩
abbrev cJ2_charAt_3b067 : ByteArray := prog_24_method_83_code
def yJ2_charAt_3b067 : MethodName := ⟨RJ2, "charAt", "([BI)C"⟩
abbrev cJ2_checkIndex_2214a : ByteArray := prog_24_method_91_code
def yJ2_checkIndex_2214a : MethodName := ⟨RJ2, "checkIndex", "(I[B)V"⟩
def RJ10 : String := "java/lang/System"
def TJ10 : u_T := fun k => match k with
  | _ => ("", "", "", false)
def tyJ10 : Nat → FieldType := fun k => match k with
  | _ => .int
abbrev wsJ100 : List Cond := u_ws RJ10 TJ10 0
theorem nmJ10 : ∀ a, a < 0 → ∀ b, b < 0 → a ≠ b → (TJ10 a).2.1 ≠ (TJ10 b).2.1 := by decide +kernel
theorem tyJ10_ok : ∀ k, k < 0 → parseFieldDescriptor (TJ10 k).2.2.1 = some (tyJ10 k) := by decide +kernel
def RJxfd54e : String := "java/lang/constant/Constable"
def TJxfd54e : u_T := fun k => match k with
  | _ => ("", "", "", false)
def tyJxfd54e : Nat → FieldType := fun k => match k with
  | _ => .int
theorem nmJxfd54e : ∀ a, a < 0 → ∀ b, b < 0 → a ≠ b → (TJxfd54e a).2.1 ≠ (TJxfd54e b).2.1 := by decide +kernel
theorem tyJxfd54e_ok : ∀ k, k < 0 → parseFieldDescriptor (TJxfd54e k).2.2.1 = some (tyJxfd54e k) := by decide +kernel
def RJx3cf43 : String := "java/lang/constant/ConstantDesc"
def TJx3cf43 : u_T := fun k => match k with
  | _ => ("", "", "", false)
def tyJx3cf43 : Nat → FieldType := fun k => match k with
  | _ => .int
theorem nmJx3cf43 : ∀ a, a < 0 → ∀ b, b < 0 → a ≠ b → (TJx3cf43 a).2.1 ≠ (TJx3cf43 b).2.1 := by decide +kernel
theorem tyJx3cf43_ok : ∀ k, k < 0 → parseFieldDescriptor (TJx3cf43 k).2.2.1 = some (tyJx3cf43 k) := by decide +kernel
def RJ3 : String := "jdk/internal/util/Preconditions"
def TJ3 : u_T := fun k => match k with
  | _ => ("", "", "", false)
def tyJ3 : Nat → FieldType := fun k => match k with
  | _ => .int
abbrev wsJ30 : List Cond := u_ws RJ3 TJ3 0
theorem nmJ3 : ∀ a, a < 0 → ∀ b, b < 0 → a ≠ b → (TJ3 a).2.1 ≠ (TJ3 b).2.1 := by decide +kernel
theorem tyJ3_ok : ∀ k, k < 0 → parseFieldDescriptor (TJ3 k).2.2.1 = some (tyJ3 k) := by decide +kernel
abbrev cJ3_checkIndex_8e157 : ByteArray := prog_30_method_11_code
def yJ3_checkIndex_8e157 : MethodName := ⟨RJ3, "checkIndex", "(IILjava/util/function/BiFunction;)I"⟩
def RL : String := "KillFollowsLaw"
abbrev cL_led : ByteArray := method_3_code
def yL_led : MethodName := ⟨RL, "led", "(LKillFollows;I[J)I"⟩
abbrev cL_law : ByteArray := code
def yL_law : MethodName := ⟨RL, "law", "([I)Z"⟩
abbrev vwCl : List vw_C := [(RX1, TX1, 1), (RX3, TX3, 5), (RX4, TX4, 8), (RX5, TX5, 5), (RX7, TX7, 8), (RX8, TX8, 9), (RX9, TX9, 3), (RX11, TX11, 11), (RX12, TX12, 33)]
