-- ===== PART A: goes FIRST, ahead of the names: the tables' words, and 'selects' of the private methods out of them =====
/-- a private method of a class that the tables say can be made, by its rows of tables_1 -/
def lw_okq (q : MethodName × Nat) : Prop := (q.1.cls ≠ "java/lang/invoke/MethodHandle" ∧ q.1.cls ≠ "java/lang/invoke/VarHandle") ∧ Cond.instantiable q.1.cls q.2 ∈ tables_1 ∧ Cond.privateMethod q.1 ∈ tables_1 ∧ Cond.instanceMethod q.1 ∈ tables_1
theorem lw_p0 : lw_okq (⟨"PledgeWindow$Shop", "empty", "()V"⟩, 6) := ⟨⟨by decide +kernel, by decide +kernel⟩, List.mem_of_getElem? (i := 24) (by decide +kernel), List.mem_of_getElem? (i := 242) (by decide +kernel), List.mem_of_getElem? (i := 243) (by decide +kernel)⟩
theorem lw_p1 : lw_okq (⟨"PledgeWindow$Town", "empty", "()V"⟩, 12) := ⟨⟨by decide +kernel, by decide +kernel⟩, List.mem_of_getElem? (i := 30) (by decide +kernel), List.mem_of_getElem? (i := 246) (by decide +kernel), List.mem_of_getElem? (i := 247) (by decide +kernel)⟩
theorem lw_p2 : lw_okq (⟨"PledgeWindow", "bad", "()I"⟩, 13) := ⟨⟨by decide +kernel, by decide +kernel⟩, List.mem_of_getElem? (i := 16) (by decide +kernel), List.mem_of_getElem? (i := 257) (by decide +kernel), List.mem_of_getElem? (i := 258) (by decide +kernel)⟩
theorem lw_p3 : lw_okq (⟨"PledgeWindow", "bad", "(I)I"⟩, 13) := ⟨⟨by decide +kernel, by decide +kernel⟩, List.mem_of_getElem? (i := 16) (by decide +kernel), List.mem_of_getElem? (i := 261) (by decide +kernel), List.mem_of_getElem? (i := 262) (by decide +kernel)⟩
theorem lw_p4 : lw_okq (⟨"PledgeWindow", "full", "()I"⟩, 13) := ⟨⟨by decide +kernel, by decide +kernel⟩, List.mem_of_getElem? (i := 16) (by decide +kernel), List.mem_of_getElem? (i := 265) (by decide +kernel), List.mem_of_getElem? (i := 266) (by decide +kernel)⟩
theorem lw_p5 : lw_okq (⟨"PledgeWindow$Town", "addPromise", "(II)I"⟩, 12) := ⟨⟨by decide +kernel, by decide +kernel⟩, List.mem_of_getElem? (i := 30) (by decide +kernel), List.mem_of_getElem? (i := 269) (by decide +kernel), List.mem_of_getElem? (i := 270) (by decide +kernel)⟩
theorem lw_p6 : lw_okq (⟨"PledgeWindow$Town", "addHearer", "(II)I"⟩, 12) := ⟨⟨by decide +kernel, by decide +kernel⟩, List.mem_of_getElem? (i := 30) (by decide +kernel), List.mem_of_getElem? (i := 280) (by decide +kernel), List.mem_of_getElem? (i := 281) (by decide +kernel)⟩
theorem lw_p7 : lw_okq (⟨"PledgeWindow$Town", "addBuyer", "(I)I"⟩, 12) := ⟨⟨by decide +kernel, by decide +kernel⟩, List.mem_of_getElem? (i := 30) (by decide +kernel), List.mem_of_getElem? (i := 288) (by decide +kernel), List.mem_of_getElem? (i := 289) (by decide +kernel)⟩
theorem lw_p8 : lw_okq (⟨"PledgeWindow$Reader", "begin", "()V"⟩, 9) := ⟨⟨by decide +kernel, by decide +kernel⟩, List.mem_of_getElem? (i := 155) (by decide +kernel), List.mem_of_getElem? (i := 305) (by decide +kernel), List.mem_of_getElem? (i := 306) (by decide +kernel)⟩
theorem lw_p9 : lw_okq (⟨"PledgeWindow$Reader", "reachesItem", "()Z"⟩, 9) := ⟨⟨by decide +kernel, by decide +kernel⟩, List.mem_of_getElem? (i := 155) (by decide +kernel), List.mem_of_getElem? (i := 310) (by decide +kernel), List.mem_of_getElem? (i := 311) (by decide +kernel)⟩
theorem lw_p10 : lw_okq (⟨"PledgeWindow$Reader", "advance", "()V"⟩, 9) := ⟨⟨by decide +kernel, by decide +kernel⟩, List.mem_of_getElem? (i := 155) (by decide +kernel), List.mem_of_getElem? (i := 314) (by decide +kernel), List.mem_of_getElem? (i := 315) (by decide +kernel)⟩
theorem lw_p11 : lw_okq (⟨"PledgeWindow$Reader", "endOfRun", "(III)I"⟩, 9) := ⟨⟨by decide +kernel, by decide +kernel⟩, List.mem_of_getElem? (i := 155) (by decide +kernel), List.mem_of_getElem? (i := 318) (by decide +kernel), List.mem_of_getElem? (i := 319) (by decide +kernel)⟩
theorem lw_p12 : lw_okq (⟨"PledgeWindow$Reader", "numberAtHand", "()I"⟩, 9) := ⟨⟨by decide +kernel, by decide +kernel⟩, List.mem_of_getElem? (i := 155) (by decide +kernel), List.mem_of_getElem? (i := 326) (by decide +kernel), List.mem_of_getElem? (i := 327) (by decide +kernel)⟩
theorem lw_p13 : lw_okq (⟨"PledgeWindow$Reader", "readItem", "()V"⟩, 9) := ⟨⟨by decide +kernel, by decide +kernel⟩, List.mem_of_getElem? (i := 155) (by decide +kernel), List.mem_of_getElem? (i := 330) (by decide +kernel), List.mem_of_getElem? (i := 331) (by decide +kernel)⟩
theorem lw_p14 : lw_okq (⟨"PledgeWindow$Reader", "wordAtHand", "()I"⟩, 9) := ⟨⟨by decide +kernel, by decide +kernel⟩, List.mem_of_getElem? (i := 155) (by decide +kernel), List.mem_of_getElem? (i := 334) (by decide +kernel), List.mem_of_getElem? (i := 335) (by decide +kernel)⟩
theorem lw_p15 : lw_okq (⟨"PledgeWindow$Reader", "isAtHand", "(Ljava/lang/String;)Z"⟩, 9) := ⟨⟨by decide +kernel, by decide +kernel⟩, List.mem_of_getElem? (i := 155) (by decide +kernel), List.mem_of_getElem? (i := 348) (by decide +kernel), List.mem_of_getElem? (i := 349) (by decide +kernel)⟩
def lw_privs_1 : List (MethodName × Nat) := [(⟨"PledgeWindow$Shop", "empty", "()V"⟩, 6), (⟨"PledgeWindow$Town", "empty", "()V"⟩, 12), (⟨"PledgeWindow", "bad", "()I"⟩, 13), (⟨"PledgeWindow", "bad", "(I)I"⟩, 13), (⟨"PledgeWindow", "full", "()I"⟩, 13), (⟨"PledgeWindow$Town", "addPromise", "(II)I"⟩, 12), (⟨"PledgeWindow$Town", "addHearer", "(II)I"⟩, 12), (⟨"PledgeWindow$Town", "addBuyer", "(I)I"⟩, 12), (⟨"PledgeWindow$Reader", "begin", "()V"⟩, 9), (⟨"PledgeWindow$Reader", "reachesItem", "()Z"⟩, 9), (⟨"PledgeWindow$Reader", "advance", "()V"⟩, 9), (⟨"PledgeWindow$Reader", "endOfRun", "(III)I"⟩, 9), (⟨"PledgeWindow$Reader", "numberAtHand", "()I"⟩, 9), (⟨"PledgeWindow$Reader", "readItem", "()V"⟩, 9), (⟨"PledgeWindow$Reader", "wordAtHand", "()I"⟩, 9), (⟨"PledgeWindow$Reader", "isAtHand", "(Ljava/lang/String;)Z"⟩, 9)]
theorem lw_r1 : ∀ q ∈ lw_privs_1, lw_okq q := List.forall_mem_cons.mpr ⟨lw_p0, List.forall_mem_cons.mpr ⟨lw_p1, List.forall_mem_cons.mpr ⟨lw_p2, List.forall_mem_cons.mpr ⟨lw_p3, List.forall_mem_cons.mpr ⟨lw_p4, List.forall_mem_cons.mpr ⟨lw_p5, List.forall_mem_cons.mpr ⟨lw_p6, List.forall_mem_cons.mpr ⟨lw_p7, List.forall_mem_cons.mpr ⟨lw_p8, List.forall_mem_cons.mpr ⟨lw_p9, List.forall_mem_cons.mpr ⟨lw_p10, List.forall_mem_cons.mpr ⟨lw_p11, List.forall_mem_cons.mpr ⟨lw_p12, List.forall_mem_cons.mpr ⟨lw_p13, List.forall_mem_cons.mpr ⟨lw_p14, List.forall_mem_cons.mpr ⟨lw_p15, fun _ h => absurd h List.not_mem_nil⟩⟩⟩⟩⟩⟩⟩⟩⟩⟩⟩⟩⟩⟩⟩⟩
theorem lw_p16 : lw_okq (⟨"PledgeWindow$Reader", "mayStand", "(I)Z"⟩, 9) := ⟨⟨by decide +kernel, by decide +kernel⟩, List.mem_of_getElem? (i := 155) (by decide +kernel), List.mem_of_getElem? (i := 400) (by decide +kernel), List.mem_of_getElem? (i := 401) (by decide +kernel)⟩
theorem lw_p17 : lw_okq (⟨"PledgeWindow$Reader", "fail", "()V"⟩, 9) := ⟨⟨by decide +kernel, by decide +kernel⟩, List.mem_of_getElem? (i := 155) (by decide +kernel), List.mem_of_getElem? (i := 404) (by decide +kernel), List.mem_of_getElem? (i := 405) (by decide +kernel)⟩
theorem lw_p18 : lw_okq (⟨"PledgeWindow$Reader", "readPromise", "()V"⟩, 9) := ⟨⟨by decide +kernel, by decide +kernel⟩, List.mem_of_getElem? (i := 155) (by decide +kernel), List.mem_of_getElem? (i := 408) (by decide +kernel), List.mem_of_getElem? (i := 409) (by decide +kernel)⟩
theorem lw_p19 : lw_okq (⟨"PledgeWindow$Reader", "readNumber", "(II)I"⟩, 9) := ⟨⟨by decide +kernel, by decide +kernel⟩, List.mem_of_getElem? (i := 155) (by decide +kernel), List.mem_of_getElem? (i := 412) (by decide +kernel), List.mem_of_getElem? (i := 413) (by decide +kernel)⟩
theorem lw_p20 : lw_okq (⟨"PledgeWindow$Reader", "readHearer", "()V"⟩, 9) := ⟨⟨by decide +kernel, by decide +kernel⟩, List.mem_of_getElem? (i := 155) (by decide +kernel), List.mem_of_getElem? (i := 417) (by decide +kernel), List.mem_of_getElem? (i := 418) (by decide +kernel)⟩
theorem lw_p21 : lw_okq (⟨"PledgeWindow$Reader", "readBuyer", "()V"⟩, 9) := ⟨⟨by decide +kernel, by decide +kernel⟩, List.mem_of_getElem? (i := 155) (by decide +kernel), List.mem_of_getElem? (i := 422) (by decide +kernel), List.mem_of_getElem? (i := 423) (by decide +kernel)⟩
theorem lw_p22 : lw_okq (⟨"PledgeWindow$Reader", "readBuy", "()V"⟩, 9) := ⟨⟨by decide +kernel, by decide +kernel⟩, List.mem_of_getElem? (i := 155) (by decide +kernel), List.mem_of_getElem? (i := 427) (by decide +kernel), List.mem_of_getElem? (i := 428) (by decide +kernel)⟩
theorem lw_p23 : lw_okq (⟨"PledgeWindow$Town", "canSell", "(II)Z"⟩, 12) := ⟨⟨by decide +kernel, by decide +kernel⟩, List.mem_of_getElem? (i := 30) (by decide +kernel), List.mem_of_getElem? (i := 431) (by decide +kernel), List.mem_of_getElem? (i := 432) (by decide +kernel)⟩
theorem lw_p24 : lw_okq (⟨"PledgeWindow$Town", "hasBuyer", "(I)Z"⟩, 12) := ⟨⟨by decide +kernel, by decide +kernel⟩, List.mem_of_getElem? (i := 30) (by decide +kernel), List.mem_of_getElem? (i := 435) (by decide +kernel), List.mem_of_getElem? (i := 436) (by decide +kernel)⟩
theorem lw_p25 : lw_okq (⟨"PledgeWindow$Town", "isInWindow", "(I)Z"⟩, 12) := ⟨⟨by decide +kernel, by decide +kernel⟩, List.mem_of_getElem? (i := 30) (by decide +kernel), List.mem_of_getElem? (i := 440) (by decide +kernel), List.mem_of_getElem? (i := 441) (by decide +kernel)⟩
theorem lw_p26 : lw_okq (⟨"PledgeWindow$Town", "hasPromise", "(I)Z"⟩, 12) := ⟨⟨by decide +kernel, by decide +kernel⟩, List.mem_of_getElem? (i := 30) (by decide +kernel), List.mem_of_getElem? (i := 444) (by decide +kernel), List.mem_of_getElem? (i := 445) (by decide +kernel)⟩
theorem lw_p27 : lw_okq (⟨"PledgeWindow$Town", "priceOf", "(I)I"⟩, 12) := ⟨⟨by decide +kernel, by decide +kernel⟩, List.mem_of_getElem? (i := 30) (by decide +kernel), List.mem_of_getElem? (i := 449) (by decide +kernel), List.mem_of_getElem? (i := 450) (by decide +kernel)⟩
theorem lw_p28 : lw_okq (⟨"PledgeWindow$Town", "goodBehind", "(II)I"⟩, 12) := ⟨⟨by decide +kernel, by decide +kernel⟩, List.mem_of_getElem? (i := 30) (by decide +kernel), List.mem_of_getElem? (i := 453) (by decide +kernel), List.mem_of_getElem? (i := 454) (by decide +kernel)⟩
theorem lw_p29 : lw_okq (⟨"PledgeWindow$Town", "sell", "(II)V"⟩, 12) := ⟨⟨by decide +kernel, by decide +kernel⟩, List.mem_of_getElem? (i := 30) (by decide +kernel), List.mem_of_getElem? (i := 464) (by decide +kernel), List.mem_of_getElem? (i := 465) (by decide +kernel)⟩
theorem lw_p30 : lw_okq (⟨"PledgeWindow$Reader", "readKeep", "()V"⟩, 9) := ⟨⟨by decide +kernel, by decide +kernel⟩, List.mem_of_getElem? (i := 155) (by decide +kernel), List.mem_of_getElem? (i := 468) (by decide +kernel), List.mem_of_getElem? (i := 469) (by decide +kernel)⟩
theorem lw_p31 : lw_okq (⟨"PledgeWindow$Town", "isHeld", "(I)Z"⟩, 12) := ⟨⟨by decide +kernel, by decide +kernel⟩, List.mem_of_getElem? (i := 30) (by decide +kernel), List.mem_of_getElem? (i := 472) (by decide +kernel), List.mem_of_getElem? (i := 473) (by decide +kernel)⟩
def lw_privs_2 : List (MethodName × Nat) := [(⟨"PledgeWindow$Reader", "mayStand", "(I)Z"⟩, 9), (⟨"PledgeWindow$Reader", "fail", "()V"⟩, 9), (⟨"PledgeWindow$Reader", "readPromise", "()V"⟩, 9), (⟨"PledgeWindow$Reader", "readNumber", "(II)I"⟩, 9), (⟨"PledgeWindow$Reader", "readHearer", "()V"⟩, 9), (⟨"PledgeWindow$Reader", "readBuyer", "()V"⟩, 9), (⟨"PledgeWindow$Reader", "readBuy", "()V"⟩, 9), (⟨"PledgeWindow$Town", "canSell", "(II)Z"⟩, 12), (⟨"PledgeWindow$Town", "hasBuyer", "(I)Z"⟩, 12), (⟨"PledgeWindow$Town", "isInWindow", "(I)Z"⟩, 12), (⟨"PledgeWindow$Town", "hasPromise", "(I)Z"⟩, 12), (⟨"PledgeWindow$Town", "priceOf", "(I)I"⟩, 12), (⟨"PledgeWindow$Town", "goodBehind", "(II)I"⟩, 12), (⟨"PledgeWindow$Town", "sell", "(II)V"⟩, 12), (⟨"PledgeWindow$Reader", "readKeep", "()V"⟩, 9), (⟨"PledgeWindow$Town", "isHeld", "(I)Z"⟩, 12)]
theorem lw_r2 : ∀ q ∈ lw_privs_2, lw_okq q := List.forall_mem_cons.mpr ⟨lw_p16, List.forall_mem_cons.mpr ⟨lw_p17, List.forall_mem_cons.mpr ⟨lw_p18, List.forall_mem_cons.mpr ⟨lw_p19, List.forall_mem_cons.mpr ⟨lw_p20, List.forall_mem_cons.mpr ⟨lw_p21, List.forall_mem_cons.mpr ⟨lw_p22, List.forall_mem_cons.mpr ⟨lw_p23, List.forall_mem_cons.mpr ⟨lw_p24, List.forall_mem_cons.mpr ⟨lw_p25, List.forall_mem_cons.mpr ⟨lw_p26, List.forall_mem_cons.mpr ⟨lw_p27, List.forall_mem_cons.mpr ⟨lw_p28, List.forall_mem_cons.mpr ⟨lw_p29, List.forall_mem_cons.mpr ⟨lw_p30, List.forall_mem_cons.mpr ⟨lw_p31, fun _ h => absurd h List.not_mem_nil⟩⟩⟩⟩⟩⟩⟩⟩⟩⟩⟩⟩⟩⟩⟩⟩
theorem lw_p32 : lw_okq (⟨"PledgeWindow$Town", "give", "(II)I"⟩, 12) := ⟨⟨by decide +kernel, by decide +kernel⟩, List.mem_of_getElem? (i := 30) (by decide +kernel), List.mem_of_getElem? (i := 476) (by decide +kernel), List.mem_of_getElem? (i := 477) (by decide +kernel)⟩
theorem lw_p33 : lw_okq (⟨"PledgeWindow$Town", "joyTo", "(II)I"⟩, 12) := ⟨⟨by decide +kernel, by decide +kernel⟩, List.mem_of_getElem? (i := 30) (by decide +kernel), List.mem_of_getElem? (i := 480) (by decide +kernel), List.mem_of_getElem? (i := 481) (by decide +kernel)⟩
theorem lw_p34 : lw_okq (⟨"PledgeWindow$Reader", "readDays", "()V"⟩, 9) := ⟨⟨by decide +kernel, by decide +kernel⟩, List.mem_of_getElem? (i := 155) (by decide +kernel), List.mem_of_getElem? (i := 490) (by decide +kernel), List.mem_of_getElem? (i := 491) (by decide +kernel)⟩
theorem lw_p35 : lw_okq (⟨"PledgeWindow$Town", "passDays", "(I)V"⟩, 12) := ⟨⟨by decide +kernel, by decide +kernel⟩, List.mem_of_getElem? (i := 30) (by decide +kernel), List.mem_of_getElem? (i := 494) (by decide +kernel), List.mem_of_getElem? (i := 495) (by decide +kernel)⟩
theorem lw_p36 : lw_okq (⟨"PledgeWindow$Reader", "readStop", "()V"⟩, 9) := ⟨⟨by decide +kernel, by decide +kernel⟩, List.mem_of_getElem? (i := 155) (by decide +kernel), List.mem_of_getElem? (i := 498) (by decide +kernel), List.mem_of_getElem? (i := 499) (by decide +kernel)⟩
theorem lw_p37 : lw_okq (⟨"PledgeWindow$Town", "take", "(LPledgeWindow$Town;)V"⟩, 12) := ⟨⟨by decide +kernel, by decide +kernel⟩, List.mem_of_getElem? (i := 30) (by decide +kernel), List.mem_of_getElem? (i := 502) (by decide +kernel), List.mem_of_getElem? (i := 503) (by decide +kernel)⟩
theorem lw_p38 : lw_okq (⟨"PledgeWindow$Past", "save", "(LPledgeWindow$Town;)V"⟩, 2) := ⟨⟨by decide +kernel, by decide +kernel⟩, List.mem_of_getElem? (i := 94) (by decide +kernel), List.mem_of_getElem? (i := 520) (by decide +kernel), List.mem_of_getElem? (i := 521) (by decide +kernel)⟩
theorem lw_p39 : lw_okq (⟨"PledgeWindow", "no", "()I"⟩, 13) := ⟨⟨by decide +kernel, by decide +kernel⟩, List.mem_of_getElem? (i := 16) (by decide +kernel), List.mem_of_getElem? (i := 534) (by decide +kernel), List.mem_of_getElem? (i := 535) (by decide +kernel)⟩
theorem lw_p40 : lw_okq (⟨"PledgeWindow$Town", "hasHearer", "(I)Z"⟩, 12) := ⟨⟨by decide +kernel, by decide +kernel⟩, List.mem_of_getElem? (i := 30) (by decide +kernel), List.mem_of_getElem? (i := 544) (by decide +kernel), List.mem_of_getElem? (i := 545) (by decide +kernel)⟩
theorem lw_p41 : lw_okq (⟨"PledgeWindow$Past", "restore", "(LPledgeWindow$Town;)V"⟩, 2) := ⟨⟨by decide +kernel, by decide +kernel⟩, List.mem_of_getElem? (i := 94) (by decide +kernel), List.mem_of_getElem? (i := 554) (by decide +kernel), List.mem_of_getElem? (i := 555) (by decide +kernel)⟩
theorem lw_p42 : lw_okq (⟨"PledgeWindow$Town", "bitsAt", "(I)I"⟩, 12) := ⟨⟨by decide +kernel, by decide +kernel⟩, List.mem_of_getElem? (i := 30) (by decide +kernel), List.mem_of_getElem? (i := 569) (by decide +kernel), List.mem_of_getElem? (i := 570) (by decide +kernel)⟩
theorem lw_p43 : lw_okq (⟨"PledgeWindow$Town", "waitingBits", "()I"⟩, 12) := ⟨⟨by decide +kernel, by decide +kernel⟩, List.mem_of_getElem? (i := 30) (by decide +kernel), List.mem_of_getElem? (i := 594) (by decide +kernel), List.mem_of_getElem? (i := 595) (by decide +kernel)⟩
theorem lw_p44 : lw_okq (⟨"PledgeWindow", "weigh", "()V"⟩, 13) := ⟨⟨by decide +kernel, by decide +kernel⟩, List.mem_of_getElem? (i := 16) (by decide +kernel), List.mem_of_getElem? (i := 603) (by decide +kernel), List.mem_of_getElem? (i := 604) (by decide +kernel)⟩
theorem lw_p45 : lw_okq (⟨"PledgeWindow", "firstFor", "(II)I"⟩, 13) := ⟨⟨by decide +kernel, by decide +kernel⟩, List.mem_of_getElem? (i := 16) (by decide +kernel), List.mem_of_getElem? (i := 616) (by decide +kernel), List.mem_of_getElem? (i := 617) (by decide +kernel)⟩
theorem lw_p46 : lw_okq (⟨"PledgeWindow", "bestBuy", "(III)I"⟩, 13) := ⟨⟨by decide +kernel, by decide +kernel⟩, List.mem_of_getElem? (i := 16) (by decide +kernel), List.mem_of_getElem? (i := 624) (by decide +kernel), List.mem_of_getElem? (i := 625) (by decide +kernel)⟩
theorem lw_p47 : lw_okq (⟨"PledgeWindow$Hints", "isFull", "()Z"⟩, 3) := ⟨⟨by decide +kernel, by decide +kernel⟩, List.mem_of_getElem? (i := 109) (by decide +kernel), List.mem_of_getElem? (i := 642) (by decide +kernel), List.mem_of_getElem? (i := 643) (by decide +kernel)⟩
def lw_privs_3 : List (MethodName × Nat) := [(⟨"PledgeWindow$Town", "give", "(II)I"⟩, 12), (⟨"PledgeWindow$Town", "joyTo", "(II)I"⟩, 12), (⟨"PledgeWindow$Reader", "readDays", "()V"⟩, 9), (⟨"PledgeWindow$Town", "passDays", "(I)V"⟩, 12), (⟨"PledgeWindow$Reader", "readStop", "()V"⟩, 9), (⟨"PledgeWindow$Town", "take", "(LPledgeWindow$Town;)V"⟩, 12), (⟨"PledgeWindow$Past", "save", "(LPledgeWindow$Town;)V"⟩, 2), (⟨"PledgeWindow", "no", "()I"⟩, 13), (⟨"PledgeWindow$Town", "hasHearer", "(I)Z"⟩, 12), (⟨"PledgeWindow$Past", "restore", "(LPledgeWindow$Town;)V"⟩, 2), (⟨"PledgeWindow$Town", "bitsAt", "(I)I"⟩, 12), (⟨"PledgeWindow$Town", "waitingBits", "()I"⟩, 12), (⟨"PledgeWindow", "weigh", "()V"⟩, 13), (⟨"PledgeWindow", "firstFor", "(II)I"⟩, 13), (⟨"PledgeWindow", "bestBuy", "(III)I"⟩, 13), (⟨"PledgeWindow$Hints", "isFull", "()Z"⟩, 3)]
theorem lw_r3 : ∀ q ∈ lw_privs_3, lw_okq q := List.forall_mem_cons.mpr ⟨lw_p32, List.forall_mem_cons.mpr ⟨lw_p33, List.forall_mem_cons.mpr ⟨lw_p34, List.forall_mem_cons.mpr ⟨lw_p35, List.forall_mem_cons.mpr ⟨lw_p36, List.forall_mem_cons.mpr ⟨lw_p37, List.forall_mem_cons.mpr ⟨lw_p38, List.forall_mem_cons.mpr ⟨lw_p39, List.forall_mem_cons.mpr ⟨lw_p40, List.forall_mem_cons.mpr ⟨lw_p41, List.forall_mem_cons.mpr ⟨lw_p42, List.forall_mem_cons.mpr ⟨lw_p43, List.forall_mem_cons.mpr ⟨lw_p44, List.forall_mem_cons.mpr ⟨lw_p45, List.forall_mem_cons.mpr ⟨lw_p46, List.forall_mem_cons.mpr ⟨lw_p47, fun _ h => absurd h List.not_mem_nil⟩⟩⟩⟩⟩⟩⟩⟩⟩⟩⟩⟩⟩⟩⟩⟩
theorem lw_p48 : lw_okq (⟨"PledgeWindow$Hints", "add", "(IIII)I"⟩, 3) := ⟨⟨by decide +kernel, by decide +kernel⟩, List.mem_of_getElem? (i := 109) (by decide +kernel), List.mem_of_getElem? (i := 646) (by decide +kernel), List.mem_of_getElem? (i := 647) (by decide +kernel)⟩
theorem lw_p49 : lw_okq (⟨"PledgeWindow", "agreeing", "(III)I"⟩, 13) := ⟨⟨by decide +kernel, by decide +kernel⟩, List.mem_of_getElem? (i := 16) (by decide +kernel), List.mem_of_getElem? (i := 655) (by decide +kernel), List.mem_of_getElem? (i := 656) (by decide +kernel)⟩
theorem lw_p50 : lw_okq (⟨"PledgeWindow", "agrees", "(III)Z"⟩, 13) := ⟨⟨by decide +kernel, by decide +kernel⟩, List.mem_of_getElem? (i := 16) (by decide +kernel), List.mem_of_getElem? (i := 659) (by decide +kernel), List.mem_of_getElem? (i := 660) (by decide +kernel)⟩
theorem lw_p51 : lw_okq (⟨"PledgeWindow$Shop", "hintsOf", "(I)LPledgeWindow$Hints;"⟩, 6) := ⟨⟨by decide +kernel, by decide +kernel⟩, List.mem_of_getElem? (i := 24) (by decide +kernel), List.mem_of_getElem? (i := 663) (by decide +kernel), List.mem_of_getElem? (i := 664) (by decide +kernel)⟩
theorem lw_p52 : lw_okq (⟨"PledgeWindow$Hints", "cell", "(II)I"⟩, 3) := ⟨⟨by decide +kernel, by decide +kernel⟩, List.mem_of_getElem? (i := 109) (by decide +kernel), List.mem_of_getElem? (i := 667) (by decide +kernel), List.mem_of_getElem? (i := 668) (by decide +kernel)⟩
theorem lw_p53 : lw_okq (⟨"PledgeWindow", "answerOf", "(IIII)I"⟩, 13) := ⟨⟨by decide +kernel, by decide +kernel⟩, List.mem_of_getElem? (i := 16) (by decide +kernel), List.mem_of_getElem? (i := 672) (by decide +kernel), List.mem_of_getElem? (i := 673) (by decide +kernel)⟩
theorem lw_p54 : lw_okq (⟨"PledgeWindow", "bestParting", "(IIII)I"⟩, 13) := ⟨⟨by decide +kernel, by decide +kernel⟩, List.mem_of_getElem? (i := 16) (by decide +kernel), List.mem_of_getElem? (i := 683) (by decide +kernel), List.mem_of_getElem? (i := 684) (by decide +kernel)⟩
theorem lw_p55 : lw_okq (⟨"PledgeWindow", "setFraction", "(JJ)V"⟩, 13) := ⟨⟨by decide +kernel, by decide +kernel⟩, List.mem_of_getElem? (i := 16) (by decide +kernel), List.mem_of_getElem? (i := 736) (by decide +kernel), List.mem_of_getElem? (i := 737) (by decide +kernel)⟩
theorem lw_p56 : lw_okq (⟨"PledgeWindow", "imageOf", "(I)LPledgeWindow$Shop;"⟩, 13) := ⟨⟨by decide +kernel, by decide +kernel⟩, List.mem_of_getElem? (i := 16) (by decide +kernel), List.mem_of_getElem? (i := 764) (by decide +kernel), List.mem_of_getElem? (i := 765) (by decide +kernel)⟩
theorem lw_p57 : lw_okq (⟨"PledgeWindow$Shop", "take", "(LPledgeWindow$Shop;)V"⟩, 6) := ⟨⟨by decide +kernel, by decide +kernel⟩, List.mem_of_getElem? (i := 24) (by decide +kernel), List.mem_of_getElem? (i := 768) (by decide +kernel), List.mem_of_getElem? (i := 769) (by decide +kernel)⟩
theorem lw_p58 : lw_okq (⟨"PledgeWindow$Past", "take", "(LPledgeWindow$Past;)V"⟩, 2) := ⟨⟨by decide +kernel, by decide +kernel⟩, List.mem_of_getElem? (i := 94) (by decide +kernel), List.mem_of_getElem? (i := 773) (by decide +kernel), List.mem_of_getElem? (i := 774) (by decide +kernel)⟩
theorem lw_p59 : lw_okq (⟨"PledgeWindow$Hints", "take", "(LPledgeWindow$Hints;)V"⟩, 3) := ⟨⟨by decide +kernel, by decide +kernel⟩, List.mem_of_getElem? (i := 109) (by decide +kernel), List.mem_of_getElem? (i := 778) (by decide +kernel), List.mem_of_getElem? (i := 779) (by decide +kernel)⟩
theorem lw_p60 : lw_okq (⟨"PledgeWindow", "countOf", "(I)I"⟩, 13) := ⟨⟨by decide +kernel, by decide +kernel⟩, List.mem_of_getElem? (i := 16) (by decide +kernel), List.mem_of_getElem? (i := 795) (by decide +kernel), List.mem_of_getElem? (i := 796) (by decide +kernel)⟩
theorem lw_p61 : lw_okq (⟨"PledgeWindow$Town", "keptCount", "()I"⟩, 12) := ⟨⟨by decide +kernel, by decide +kernel⟩, List.mem_of_getElem? (i := 30) (by decide +kernel), List.mem_of_getElem? (i := 805) (by decide +kernel), List.mem_of_getElem? (i := 806) (by decide +kernel)⟩
theorem lw_p62 : lw_okq (⟨"PledgeWindow$Town", "digestOn", "(J)J"⟩, 12) := ⟨⟨by decide +kernel, by decide +kernel⟩, List.mem_of_getElem? (i := 30) (by decide +kernel), List.mem_of_getElem? (i := 816) (by decide +kernel), List.mem_of_getElem? (i := 817) (by decide +kernel)⟩
theorem lw_p63 : lw_okq (⟨"PledgeWindow$Hints", "digestOn", "(JI)J"⟩, 3) := ⟨⟨by decide +kernel, by decide +kernel⟩, List.mem_of_getElem? (i := 109) (by decide +kernel), List.mem_of_getElem? (i := 821) (by decide +kernel), List.mem_of_getElem? (i := 822) (by decide +kernel)⟩
def lw_privs_4 : List (MethodName × Nat) := [(⟨"PledgeWindow$Hints", "add", "(IIII)I"⟩, 3), (⟨"PledgeWindow", "agreeing", "(III)I"⟩, 13), (⟨"PledgeWindow", "agrees", "(III)Z"⟩, 13), (⟨"PledgeWindow$Shop", "hintsOf", "(I)LPledgeWindow$Hints;"⟩, 6), (⟨"PledgeWindow$Hints", "cell", "(II)I"⟩, 3), (⟨"PledgeWindow", "answerOf", "(IIII)I"⟩, 13), (⟨"PledgeWindow", "bestParting", "(IIII)I"⟩, 13), (⟨"PledgeWindow", "setFraction", "(JJ)V"⟩, 13), (⟨"PledgeWindow", "imageOf", "(I)LPledgeWindow$Shop;"⟩, 13), (⟨"PledgeWindow$Shop", "take", "(LPledgeWindow$Shop;)V"⟩, 6), (⟨"PledgeWindow$Past", "take", "(LPledgeWindow$Past;)V"⟩, 2), (⟨"PledgeWindow$Hints", "take", "(LPledgeWindow$Hints;)V"⟩, 3), (⟨"PledgeWindow", "countOf", "(I)I"⟩, 13), (⟨"PledgeWindow$Town", "keptCount", "()I"⟩, 12), (⟨"PledgeWindow$Town", "digestOn", "(J)J"⟩, 12), (⟨"PledgeWindow$Hints", "digestOn", "(JI)J"⟩, 3)]
theorem lw_r4 : ∀ q ∈ lw_privs_4, lw_okq q := List.forall_mem_cons.mpr ⟨lw_p48, List.forall_mem_cons.mpr ⟨lw_p49, List.forall_mem_cons.mpr ⟨lw_p50, List.forall_mem_cons.mpr ⟨lw_p51, List.forall_mem_cons.mpr ⟨lw_p52, List.forall_mem_cons.mpr ⟨lw_p53, List.forall_mem_cons.mpr ⟨lw_p54, List.forall_mem_cons.mpr ⟨lw_p55, List.forall_mem_cons.mpr ⟨lw_p56, List.forall_mem_cons.mpr ⟨lw_p57, List.forall_mem_cons.mpr ⟨lw_p58, List.forall_mem_cons.mpr ⟨lw_p59, List.forall_mem_cons.mpr ⟨lw_p60, List.forall_mem_cons.mpr ⟨lw_p61, List.forall_mem_cons.mpr ⟨lw_p62, List.forall_mem_cons.mpr ⟨lw_p63, fun _ h => absurd h List.not_mem_nil⟩⟩⟩⟩⟩⟩⟩⟩⟩⟩⟩⟩⟩⟩⟩⟩
theorem lw_p64 : lw_okq (⟨"PledgeWindowModel", "many", "()I"⟩, 18) := ⟨⟨by decide +kernel, by decide +kernel⟩, List.mem_of_getElem? (i := 827) (by decide +kernel), List.mem_of_getElem? (i := 896) (by decide +kernel), List.mem_of_getElem? (i := 897) (by decide +kernel)⟩
theorem lw_p65 : lw_okq (⟨"PledgeWindowModel", "bad", "(I)I"⟩, 18) := ⟨⟨by decide +kernel, by decide +kernel⟩, List.mem_of_getElem? (i := 827) (by decide +kernel), List.mem_of_getElem? (i := 915) (by decide +kernel), List.mem_of_getElem? (i := 916) (by decide +kernel)⟩
theorem lw_p66 : lw_okq (⟨"PledgeWindowModel", "full", "()I"⟩, 18) := ⟨⟨by decide +kernel, by decide +kernel⟩, List.mem_of_getElem? (i := 827) (by decide +kernel), List.mem_of_getElem? (i := 919) (by decide +kernel), List.mem_of_getElem? (i := 920) (by decide +kernel)⟩
theorem lw_p67 : lw_okq (⟨"PledgeWindowModel", "save", "()V"⟩, 18) := ⟨⟨by decide +kernel, by decide +kernel⟩, List.mem_of_getElem? (i := 827) (by decide +kernel), List.mem_of_getElem? (i := 940) (by decide +kernel), List.mem_of_getElem? (i := 941) (by decide +kernel)⟩
theorem lw_p68 : lw_okq (⟨"PledgeWindowModel", "isBuyer", "(I)Z"⟩, 18) := ⟨⟨by decide +kernel, by decide +kernel⟩, List.mem_of_getElem? (i := 827) (by decide +kernel), List.mem_of_getElem? (i := 957) (by decide +kernel), List.mem_of_getElem? (i := 958) (by decide +kernel)⟩
theorem lw_p69 : lw_okq (⟨"PledgeWindowModel", "isPromise", "(I)Z"⟩, 18) := ⟨⟨by decide +kernel, by decide +kernel⟩, List.mem_of_getElem? (i := 827) (by decide +kernel), List.mem_of_getElem? (i := 961) (by decide +kernel), List.mem_of_getElem? (i := 962) (by decide +kernel)⟩
theorem lw_p70 : lw_okq (⟨"PledgeWindowModel", "no", "()I"⟩, 18) := ⟨⟨by decide +kernel, by decide +kernel⟩, List.mem_of_getElem? (i := 827) (by decide +kernel), List.mem_of_getElem? (i := 977) (by decide +kernel), List.mem_of_getElem? (i := 978) (by decide +kernel)⟩
theorem lw_p71 : lw_okq (⟨"PledgeWindowModel", "isHearer", "(I)Z"⟩, 18) := ⟨⟨by decide +kernel, by decide +kernel⟩, List.mem_of_getElem? (i := 827) (by decide +kernel), List.mem_of_getElem? (i := 988) (by decide +kernel), List.mem_of_getElem? (i := 989) (by decide +kernel)⟩
theorem lw_p72 : lw_okq (⟨"PledgeWindowModel", "toldOf", "(II)I"⟩, 18) := ⟨⟨by decide +kernel, by decide +kernel⟩, List.mem_of_getElem? (i := 827) (by decide +kernel), List.mem_of_getElem? (i := 1012) (by decide +kernel), List.mem_of_getElem? (i := 1013) (by decide +kernel)⟩
theorem lw_p73 : lw_okq (⟨"PledgeWindowModel", "allIn", "(I)I"⟩, 18) := ⟨⟨by decide +kernel, by decide +kernel⟩, List.mem_of_getElem? (i := 827) (by decide +kernel), List.mem_of_getElem? (i := 1021) (by decide +kernel), List.mem_of_getElem? (i := 1022) (by decide +kernel)⟩
theorem lw_p74 : lw_okq (⟨"PledgeWindowModel", "goodBehind", "(II)I"⟩, 18) := ⟨⟨by decide +kernel, by decide +kernel⟩, List.mem_of_getElem? (i := 827) (by decide +kernel), List.mem_of_getElem? (i := 1034) (by decide +kernel), List.mem_of_getElem? (i := 1035) (by decide +kernel)⟩
theorem lw_p75 : lw_okq (⟨"PledgeWindowModel", "waiting", "()I"⟩, 18) := ⟨⟨by decide +kernel, by decide +kernel⟩, List.mem_of_getElem? (i := 827) (by decide +kernel), List.mem_of_getElem? (i := 1051) (by decide +kernel), List.mem_of_getElem? (i := 1052) (by decide +kernel)⟩
theorem lw_p76 : lw_okq (⟨"PledgeWindowModel", "codes", "()I"⟩, 18) := ⟨⟨by decide +kernel, by decide +kernel⟩, List.mem_of_getElem? (i := 827) (by decide +kernel), List.mem_of_getElem? (i := 1059) (by decide +kernel), List.mem_of_getElem? (i := 1060) (by decide +kernel)⟩
theorem lw_p77 : lw_okq (⟨"PledgeWindowModel", "means", "(I)Z"⟩, 18) := ⟨⟨by decide +kernel, by decide +kernel⟩, List.mem_of_getElem? (i := 827) (by decide +kernel), List.mem_of_getElem? (i := 1063) (by decide +kernel), List.mem_of_getElem? (i := 1064) (by decide +kernel)⟩
theorem lw_p78 : lw_okq (⟨"PledgeWindowModel", "seenOnes", "()I"⟩, 18) := ⟨⟨by decide +kernel, by decide +kernel⟩, List.mem_of_getElem? (i := 827) (by decide +kernel), List.mem_of_getElem? (i := 1087) (by decide +kernel), List.mem_of_getElem? (i := 1088) (by decide +kernel)⟩
theorem lw_p79 : lw_okq (⟨"PledgeWindowModel", "mostAlike", "(I)I"⟩, 18) := ⟨⟨by decide +kernel, by decide +kernel⟩, List.mem_of_getElem? (i := 827) (by decide +kernel), List.mem_of_getElem? (i := 1095) (by decide +kernel), List.mem_of_getElem? (i := 1096) (by decide +kernel)⟩
def lw_privs_5 : List (MethodName × Nat) := [(⟨"PledgeWindowModel", "many", "()I"⟩, 18), (⟨"PledgeWindowModel", "bad", "(I)I"⟩, 18), (⟨"PledgeWindowModel", "full", "()I"⟩, 18), (⟨"PledgeWindowModel", "save", "()V"⟩, 18), (⟨"PledgeWindowModel", "isBuyer", "(I)Z"⟩, 18), (⟨"PledgeWindowModel", "isPromise", "(I)Z"⟩, 18), (⟨"PledgeWindowModel", "no", "()I"⟩, 18), (⟨"PledgeWindowModel", "isHearer", "(I)Z"⟩, 18), (⟨"PledgeWindowModel", "toldOf", "(II)I"⟩, 18), (⟨"PledgeWindowModel", "allIn", "(I)I"⟩, 18), (⟨"PledgeWindowModel", "goodBehind", "(II)I"⟩, 18), (⟨"PledgeWindowModel", "waiting", "()I"⟩, 18), (⟨"PledgeWindowModel", "codes", "()I"⟩, 18), (⟨"PledgeWindowModel", "means", "(I)Z"⟩, 18), (⟨"PledgeWindowModel", "seenOnes", "()I"⟩, 18), (⟨"PledgeWindowModel", "mostAlike", "(I)I"⟩, 18)]
theorem lw_r5 : ∀ q ∈ lw_privs_5, lw_okq q := List.forall_mem_cons.mpr ⟨lw_p64, List.forall_mem_cons.mpr ⟨lw_p65, List.forall_mem_cons.mpr ⟨lw_p66, List.forall_mem_cons.mpr ⟨lw_p67, List.forall_mem_cons.mpr ⟨lw_p68, List.forall_mem_cons.mpr ⟨lw_p69, List.forall_mem_cons.mpr ⟨lw_p70, List.forall_mem_cons.mpr ⟨lw_p71, List.forall_mem_cons.mpr ⟨lw_p72, List.forall_mem_cons.mpr ⟨lw_p73, List.forall_mem_cons.mpr ⟨lw_p74, List.forall_mem_cons.mpr ⟨lw_p75, List.forall_mem_cons.mpr ⟨lw_p76, List.forall_mem_cons.mpr ⟨lw_p77, List.forall_mem_cons.mpr ⟨lw_p78, List.forall_mem_cons.mpr ⟨lw_p79, fun _ h => absurd h List.not_mem_nil⟩⟩⟩⟩⟩⟩⟩⟩⟩⟩⟩⟩⟩⟩⟩⟩
theorem lw_p80 : lw_okq (⟨"PledgeWindowModel", "layFour", "(IIIII)V"⟩, 18) := ⟨⟨by decide +kernel, by decide +kernel⟩, List.mem_of_getElem? (i := 827) (by decide +kernel), List.mem_of_getElem? (i := 1103) (by decide +kernel), List.mem_of_getElem? (i := 1104) (by decide +kernel)⟩
theorem lw_p81 : lw_okq (⟨"PledgeWindowModel", "kindsOfPromise", "(I)I"⟩, 18) := ⟨⟨by decide +kernel, by decide +kernel⟩, List.mem_of_getElem? (i := 827) (by decide +kernel), List.mem_of_getElem? (i := 1120) (by decide +kernel), List.mem_of_getElem? (i := 1121) (by decide +kernel)⟩
theorem lw_p82 : lw_okq (⟨"PledgeWindowModel", "kindsOfHearer", "(I)I"⟩, 18) := ⟨⟨by decide +kernel, by decide +kernel⟩, List.mem_of_getElem? (i := 827) (by decide +kernel), List.mem_of_getElem? (i := 1132) (by decide +kernel), List.mem_of_getElem? (i := 1133) (by decide +kernel)⟩
theorem lw_p83 : lw_okq (⟨"PledgeWindowModel", "fraction", "(JJ)V"⟩, 18) := ⟨⟨by decide +kernel, by decide +kernel⟩, List.mem_of_getElem? (i := 827) (by decide +kernel), List.mem_of_getElem? (i := 1155) (by decide +kernel), List.mem_of_getElem? (i := 1156) (by decide +kernel)⟩
theorem lw_p84 : lw_okq (⟨"PledgeWindowModel", "lookAt", "(I)V"⟩, 18) := ⟨⟨by decide +kernel, by decide +kernel⟩, List.mem_of_getElem? (i := 827) (by decide +kernel), List.mem_of_getElem? (i := 1184) (by decide +kernel), List.mem_of_getElem? (i := 1185) (by decide +kernel)⟩
theorem lw_p85 : lw_okq (⟨"PledgeWindowModel", "spells", "(IIIIIII)Z"⟩, 18) := ⟨⟨by decide +kernel, by decide +kernel⟩, List.mem_of_getElem? (i := 827) (by decide +kernel), List.mem_of_getElem? (i := 1198) (by decide +kernel), List.mem_of_getElem? (i := 1199) (by decide +kernel)⟩
theorem lw_p86 : lw_okq (⟨"PledgeWindowModel", "goBehind", "()V"⟩, 18) := ⟨⟨by decide +kernel, by decide +kernel⟩, List.mem_of_getElem? (i := 827) (by decide +kernel), List.mem_of_getElem? (i := 1202) (by decide +kernel), List.mem_of_getElem? (i := 1203) (by decide +kernel)⟩
theorem lw_p87 : lw_okq (⟨"PledgeWindowModel", "takesItem", "()Z"⟩, 18) := ⟨⟨by decide +kernel, by decide +kernel⟩, List.mem_of_getElem? (i := 827) (by decide +kernel), List.mem_of_getElem? (i := 1206) (by decide +kernel), List.mem_of_getElem? (i := 1207) (by decide +kernel)⟩
theorem lw_p88 : lw_okq (⟨"PledgeWindowModel", "spellsPromise", "()Z"⟩, 18) := ⟨⟨by decide +kernel, by decide +kernel⟩, List.mem_of_getElem? (i := 827) (by decide +kernel), List.mem_of_getElem? (i := 1210) (by decide +kernel), List.mem_of_getElem? (i := 1211) (by decide +kernel)⟩
theorem lw_p89 : lw_okq (⟨"PledgeWindowModel", "takesPromise", "()Z"⟩, 18) := ⟨⟨by decide +kernel, by decide +kernel⟩, List.mem_of_getElem? (i := 827) (by decide +kernel), List.mem_of_getElem? (i := 1214) (by decide +kernel), List.mem_of_getElem? (i := 1215) (by decide +kernel)⟩
theorem lw_p90 : lw_okq (⟨"PledgeWindowModel", "takes", "(III)Z"⟩, 18) := ⟨⟨by decide +kernel, by decide +kernel⟩, List.mem_of_getElem? (i := 827) (by decide +kernel), List.mem_of_getElem? (i := 1218) (by decide +kernel), List.mem_of_getElem? (i := 1219) (by decide +kernel)⟩
theorem lw_p91 : lw_okq (⟨"PledgeWindowModel", "takesHearer", "()Z"⟩, 18) := ⟨⟨by decide +kernel, by decide +kernel⟩, List.mem_of_getElem? (i := 827) (by decide +kernel), List.mem_of_getElem? (i := 1222) (by decide +kernel), List.mem_of_getElem? (i := 1223) (by decide +kernel)⟩
theorem lw_p92 : lw_okq (⟨"PledgeWindowModel", "takesBuyer", "()Z"⟩, 18) := ⟨⟨by decide +kernel, by decide +kernel⟩, List.mem_of_getElem? (i := 827) (by decide +kernel), List.mem_of_getElem? (i := 1226) (by decide +kernel), List.mem_of_getElem? (i := 1227) (by decide +kernel)⟩
theorem lw_p93 : lw_okq (⟨"PledgeWindowModel", "takesBuy", "()Z"⟩, 18) := ⟨⟨by decide +kernel, by decide +kernel⟩, List.mem_of_getElem? (i := 827) (by decide +kernel), List.mem_of_getElem? (i := 1230) (by decide +kernel), List.mem_of_getElem? (i := 1231) (by decide +kernel)⟩
theorem lw_p94 : lw_okq (⟨"PledgeWindowModel", "takesKeep", "()Z"⟩, 18) := ⟨⟨by decide +kernel, by decide +kernel⟩, List.mem_of_getElem? (i := 827) (by decide +kernel), List.mem_of_getElem? (i := 1234) (by decide +kernel), List.mem_of_getElem? (i := 1235) (by decide +kernel)⟩
theorem lw_p95 : lw_okq (⟨"PledgeWindowModel", "takesDays", "()Z"⟩, 18) := ⟨⟨by decide +kernel, by decide +kernel⟩, List.mem_of_getElem? (i := 827) (by decide +kernel), List.mem_of_getElem? (i := 1238) (by decide +kernel), List.mem_of_getElem? (i := 1239) (by decide +kernel)⟩
def lw_privs_6 : List (MethodName × Nat) := [(⟨"PledgeWindowModel", "layFour", "(IIIII)V"⟩, 18), (⟨"PledgeWindowModel", "kindsOfPromise", "(I)I"⟩, 18), (⟨"PledgeWindowModel", "kindsOfHearer", "(I)I"⟩, 18), (⟨"PledgeWindowModel", "fraction", "(JJ)V"⟩, 18), (⟨"PledgeWindowModel", "lookAt", "(I)V"⟩, 18), (⟨"PledgeWindowModel", "spells", "(IIIIIII)Z"⟩, 18), (⟨"PledgeWindowModel", "goBehind", "()V"⟩, 18), (⟨"PledgeWindowModel", "takesItem", "()Z"⟩, 18), (⟨"PledgeWindowModel", "spellsPromise", "()Z"⟩, 18), (⟨"PledgeWindowModel", "takesPromise", "()Z"⟩, 18), (⟨"PledgeWindowModel", "takes", "(III)Z"⟩, 18), (⟨"PledgeWindowModel", "takesHearer", "()Z"⟩, 18), (⟨"PledgeWindowModel", "takesBuyer", "()Z"⟩, 18), (⟨"PledgeWindowModel", "takesBuy", "()Z"⟩, 18), (⟨"PledgeWindowModel", "takesKeep", "()Z"⟩, 18), (⟨"PledgeWindowModel", "takesDays", "()Z"⟩, 18)]
theorem lw_r6 : ∀ q ∈ lw_privs_6, lw_okq q := List.forall_mem_cons.mpr ⟨lw_p80, List.forall_mem_cons.mpr ⟨lw_p81, List.forall_mem_cons.mpr ⟨lw_p82, List.forall_mem_cons.mpr ⟨lw_p83, List.forall_mem_cons.mpr ⟨lw_p84, List.forall_mem_cons.mpr ⟨lw_p85, List.forall_mem_cons.mpr ⟨lw_p86, List.forall_mem_cons.mpr ⟨lw_p87, List.forall_mem_cons.mpr ⟨lw_p88, List.forall_mem_cons.mpr ⟨lw_p89, List.forall_mem_cons.mpr ⟨lw_p90, List.forall_mem_cons.mpr ⟨lw_p91, List.forall_mem_cons.mpr ⟨lw_p92, List.forall_mem_cons.mpr ⟨lw_p93, List.forall_mem_cons.mpr ⟨lw_p94, List.forall_mem_cons.mpr ⟨lw_p95, fun _ h => absurd h List.not_mem_nil⟩⟩⟩⟩⟩⟩⟩⟩⟩⟩⟩⟩⟩⟩⟩⟩
theorem lw_p96 : lw_okq (⟨"PledgeWindowModel", "counted", "(I)I"⟩, 18) := ⟨⟨by decide +kernel, by decide +kernel⟩, List.mem_of_getElem? (i := 827) (by decide +kernel), List.mem_of_getElem? (i := 1263) (by decide +kernel), List.mem_of_getElem? (i := 1264) (by decide +kernel)⟩
theorem lw_p97 : lw_okq (⟨"PledgeWindowModel", "sums", "(JII)J"⟩, 18) := ⟨⟨by decide +kernel, by decide +kernel⟩, List.mem_of_getElem? (i := 827) (by decide +kernel), List.mem_of_getElem? (i := 1273) (by decide +kernel), List.mem_of_getElem? (i := 1274) (by decide +kernel)⟩
def lw_privs_7 : List (MethodName × Nat) := [(⟨"PledgeWindowModel", "counted", "(I)I"⟩, 18), (⟨"PledgeWindowModel", "sums", "(JII)J"⟩, 18)]
theorem lw_r7 : ∀ q ∈ lw_privs_7, lw_okq q := List.forall_mem_cons.mpr ⟨lw_p96, List.forall_mem_cons.mpr ⟨lw_p97, fun _ h => absurd h List.not_mem_nil⟩⟩
def lw_privs : List (MethodName × Nat) := lw_privs_1 ++ (lw_privs_2 ++ (lw_privs_3 ++ (lw_privs_4 ++ (lw_privs_5 ++ (lw_privs_6 ++ (lw_privs_7))))))
def lw_tbl : List Cond := k2_sels lw_privs ++ tables_1
theorem lw_privs_ok : ∀ q ∈ lw_privs, lw_okq q := by
  show ∀ q ∈ lw_privs_1 ++ (lw_privs_2 ++ (lw_privs_3 ++ (lw_privs_4 ++ (lw_privs_5 ++ (lw_privs_6 ++ (lw_privs_7)))))), lw_okq q
  exact List.forall_mem_append.mpr ⟨lw_r1, List.forall_mem_append.mpr ⟨lw_r2, List.forall_mem_append.mpr ⟨lw_r3, List.forall_mem_append.mpr ⟨lw_r4, List.forall_mem_append.mpr ⟨lw_r5, List.forall_mem_append.mpr ⟨lw_r6, lw_r7⟩⟩⟩⟩⟩⟩
def RX0 : String := "PledgeWindow$Hints"
def TX0 : u_T := fun k => match k with
  | 0 => ("PledgeWindow$Hints", "most", "I", true)
  | 1 => ("PledgeWindow$Hints", "cells", "[I", true)
  | _ => ("PledgeWindow$Hints", "size", "I", false)
def tyX0 : Nat → FieldType := fun k => match k with
  | 0 => .int
  | 1 => .array .int
  | _ => .int
abbrev wsX00 : List Cond := u_ws RX0 TX0 3
theorem nmX0 : ∀ a, a < 3 → ∀ b, b < 3 → a ≠ b → (TX0 a).2.1 ≠ (TX0 b).2.1 := by decide +kernel
theorem tyX0_ok : ∀ k, k < 3 → parseFieldDescriptor (TX0 k).2.2.1 = some (tyX0 k) := by decide +kernel
abbrev cX0_init : ByteArray := prog_2_method_1_code
def yX0_init : MethodName := ⟨RX0, "<init>", "(I)V"⟩
abbrev cX0_take : ByteArray := prog_2_method_2_code
def yX0_take : MethodName := ⟨RX0, "take", "(LPledgeWindow$Hints;)V"⟩
abbrev cX0_isFull : ByteArray := prog_2_method_3_code
def yX0_isFull : MethodName := ⟨RX0, "isFull", "()Z"⟩
abbrev cX0_add : ByteArray := prog_2_method_4_code
def yX0_add : MethodName := ⟨RX0, "add", "(IIII)I"⟩
abbrev cX0_cell : ByteArray := prog_2_method_5_code
def yX0_cell : MethodName := ⟨RX0, "cell", "(II)I"⟩
abbrev cX0_digestOn : ByteArray := prog_2_method_6_code
def yX0_digestOn : MethodName := ⟨RX0, "digestOn", "(JI)J"⟩
def RX1 : String := "PledgeWindow$Past"
def TX1 : u_T := fun k => match k with
  | 0 => ("PledgeWindow$Past", "cells", "[I", true)
  | _ => ("PledgeWindow$Past", "depth", "I", false)
def tyX1 : Nat → FieldType := fun k => match k with
  | 0 => .array .int
  | _ => .int
abbrev wsX10 : List Cond := u_ws RX1 TX1 2
theorem nmX1 : ∀ a, a < 2 → ∀ b, b < 2 → a ≠ b → (TX1 a).2.1 ≠ (TX1 b).2.1 := by decide +kernel
theorem tyX1_ok : ∀ k, k < 2 → parseFieldDescriptor (TX1 k).2.2.1 = some (tyX1 k) := by decide +kernel
abbrev cX1_init : ByteArray := prog_3_method_1_code
def yX1_init : MethodName := ⟨RX1, "<init>", "()V"⟩
abbrev cX1_take : ByteArray := prog_3_method_2_code
def yX1_take : MethodName := ⟨RX1, "take", "(LPledgeWindow$Past;)V"⟩
abbrev cX1_save : ByteArray := prog_3_method_3_code
def yX1_save : MethodName := ⟨RX1, "save", "(LPledgeWindow$Town;)V"⟩
abbrev cX1_restore : ByteArray := prog_3_method_4_code
def yX1_restore : MethodName := ⟨RX1, "restore", "(LPledgeWindow$Town;)V"⟩
def RX2 : String := "PledgeWindow$Reader"
def TX2 : u_T := fun k => match k with
  | 0 => ("PledgeWindow$Reader", "text", "[I", true)
  | 1 => ("PledgeWindow$Reader", "draft", "LPledgeWindow$Town;", true)
  | 2 => ("PledgeWindow$Reader", "length", "I", false)
  | 3 => ("PledgeWindow$Reader", "fault", "I", false)
  | 4 => ("PledgeWindow$Reader", "items", "I", false)
  | 5 => ("PledgeWindow$Reader", "token", "I", false)
  | 6 => ("PledgeWindow$Reader", "start", "I", false)
  | 7 => ("PledgeWindow$Reader", "next", "I", false)
  | _ => ("PledgeWindow$Reader", "value", "I", false)
def tyX2 : Nat → FieldType := fun k => match k with
  | 0 => .array .int
  | 1 => .object "PledgeWindow$Town"
  | 2 => .int
  | 3 => .int
  | 4 => .int
  | 5 => .int
  | 6 => .int
  | 7 => .int
  | _ => .int
abbrev wsX20 : List Cond := u_ws RX2 TX2 9
theorem nmX2 : ∀ a, a < 9 → ∀ b, b < 9 → a ≠ b → (TX2 a).2.1 ≠ (TX2 b).2.1 := by decide +kernel
theorem tyX2_ok : ∀ k, k < 9 → parseFieldDescriptor (TX2 k).2.2.1 = some (tyX2 k) := by decide +kernel
abbrev cX2_init : ByteArray := prog_4_method_1_code
def yX2_init : MethodName := ⟨RX2, "<init>", "()V"⟩
abbrev cX2_begin : ByteArray := prog_4_method_2_code
def yX2_begin : MethodName := ⟨RX2, "begin", "()V"⟩
abbrev cX2_reachesItem : ByteArray := prog_4_method_3_code
def yX2_reachesItem : MethodName := ⟨RX2, "reachesItem", "()Z"⟩
abbrev cX2_readItem : ByteArray := prog_4_method_4_code
def yX2_readItem : MethodName := ⟨RX2, "readItem", "()V"⟩
abbrev cX2_mayStand : ByteArray := prog_4_method_5_code
def yX2_mayStand : MethodName := ⟨RX2, "mayStand", "(I)Z"⟩
abbrev cX2_readPromise : ByteArray := prog_4_method_6_code
def yX2_readPromise : MethodName := ⟨RX2, "readPromise", "()V"⟩
abbrev cX2_readHearer : ByteArray := prog_4_method_7_code
def yX2_readHearer : MethodName := ⟨RX2, "readHearer", "()V"⟩
abbrev cX2_readBuyer : ByteArray := prog_4_method_8_code
def yX2_readBuyer : MethodName := ⟨RX2, "readBuyer", "()V"⟩
abbrev cX2_readBuy : ByteArray := prog_4_method_9_code
def yX2_readBuy : MethodName := ⟨RX2, "readBuy", "()V"⟩
abbrev cX2_readKeep : ByteArray := prog_4_method_10_code
def yX2_readKeep : MethodName := ⟨RX2, "readKeep", "()V"⟩
abbrev cX2_readDays : ByteArray := prog_4_method_11_code
def yX2_readDays : MethodName := ⟨RX2, "readDays", "()V"⟩
abbrev cX2_readNumber : ByteArray := prog_4_method_12_code
def yX2_readNumber : MethodName := ⟨RX2, "readNumber", "(II)I"⟩
abbrev cX2_readStop : ByteArray := prog_4_method_13_code
def yX2_readStop : MethodName := ⟨RX2, "readStop", "()V"⟩
abbrev cX2_fail : ByteArray := prog_4_method_14_code
def yX2_fail : MethodName := ⟨RX2, "fail", "()V"⟩
abbrev cX2_advance : ByteArray := prog_4_method_15_code
def yX2_advance : MethodName := ⟨RX2, "advance", "()V"⟩
abbrev cX2_endOfRun : ByteArray := prog_4_method_16_code
def yX2_endOfRun : MethodName := ⟨RX2, "endOfRun", "(III)I"⟩
abbrev cX2_numberAtHand : ByteArray := prog_4_method_17_code
def yX2_numberAtHand : MethodName := ⟨RX2, "numberAtHand", "()I"⟩
abbrev cX2_wordAtHand : ByteArray := prog_4_method_18_code
def yX2_wordAtHand : MethodName := ⟨RX2, "wordAtHand", "()I"⟩
abbrev cX2_spelling : ByteArray := prog_4_method_19_code
def yX2_spelling : MethodName := ⟨RX2, "spelling", "(I)Ljava/lang/String;"⟩
abbrev cX2_isAtHand : ByteArray := prog_4_method_20_code
def yX2_isAtHand : MethodName := ⟨RX2, "isAtHand", "(Ljava/lang/String;)Z"⟩
def RX3 : String := "PledgeWindow$Shop"
def TX3 : u_T := fun k => match k with
  | 0 => ("PledgeWindow$Shop", "town", "LPledgeWindow$Town;", true)
  | 1 => ("PledgeWindow$Shop", "past", "LPledgeWindow$Past;", true)
  | 2 => ("PledgeWindow$Shop", "seen", "LPledgeWindow$Hints;", true)
  | 3 => ("PledgeWindow$Shop", "notes", "LPledgeWindow$Hints;", true)
  | 4 => ("PledgeWindow$Shop", "marks", "LPledgeWindow$Hints;", true)
  | _ => ("PledgeWindow$Shop", "there", "Z", false)
def tyX3 : Nat → FieldType := fun k => match k with
  | 0 => .object "PledgeWindow$Town"
  | 1 => .object "PledgeWindow$Past"
  | 2 => .object "PledgeWindow$Hints"
  | 3 => .object "PledgeWindow$Hints"
  | 4 => .object "PledgeWindow$Hints"
  | _ => .boolean
abbrev wsX30 : List Cond := u_ws RX3 TX3 6
theorem nmX3 : ∀ a, a < 6 → ∀ b, b < 6 → a ≠ b → (TX3 a).2.1 ≠ (TX3 b).2.1 := by decide +kernel
theorem tyX3_ok : ∀ k, k < 6 → parseFieldDescriptor (TX3 k).2.2.1 = some (tyX3 k) := by decide +kernel
abbrev cX3_init : ByteArray := prog_5_method_1_code
def yX3_init : MethodName := ⟨RX3, "<init>", "()V"⟩
abbrev cX3_empty : ByteArray := prog_5_method_2_code
def yX3_empty : MethodName := ⟨RX3, "empty", "()V"⟩
abbrev cX3_take : ByteArray := prog_5_method_3_code
def yX3_take : MethodName := ⟨RX3, "take", "(LPledgeWindow$Shop;)V"⟩
abbrev cX3_hintsOf : ByteArray := prog_5_method_4_code
def yX3_hintsOf : MethodName := ⟨RX3, "hintsOf", "(I)LPledgeWindow$Hints;"⟩
def RX4 : String := "PledgeWindow$Town"
def TX4 : u_T := fun k => match k with
  | 0 => ("PledgeWindow$Town", "kinds", "[I", true)
  | 1 => ("PledgeWindow$Town", "worths", "[I", true)
  | 2 => ("PledgeWindow$Town", "lain", "[I", true)
  | 3 => ("PledgeWindow$Town", "places", "[I", true)
  | 4 => ("PledgeWindow$Town", "hearerKinds", "[I", true)
  | 5 => ("PledgeWindow$Town", "wants", "[I", true)
  | 6 => ("PledgeWindow$Town", "purses", "[I", true)
  | 7 => ("PledgeWindow$Town", "promises", "I", false)
  | 8 => ("PledgeWindow$Town", "hearers", "I", false)
  | 9 => ("PledgeWindow$Town", "buyers", "I", false)
  | 10 => ("PledgeWindow$Town", "day", "I", false)
  | _ => ("PledgeWindow$Town", "allJoy", "I", false)
def tyX4 : Nat → FieldType := fun k => match k with
  | 0 => .array .int
  | 1 => .array .int
  | 2 => .array .int
  | 3 => .array .int
  | 4 => .array .int
  | 5 => .array .int
  | 6 => .array .int
  | 7 => .int
  | 8 => .int
  | 9 => .int
  | 10 => .int
  | _ => .int
abbrev wsX40 : List Cond := u_ws RX4 TX4 12
theorem nmX4 : ∀ a, a < 12 → ∀ b, b < 12 → a ≠ b → (TX4 a).2.1 ≠ (TX4 b).2.1 := by decide +kernel
theorem tyX4_ok : ∀ k, k < 12 → parseFieldDescriptor (TX4 k).2.2.1 = some (tyX4 k) := by decide +kernel
abbrev cX4_init : ByteArray := prog_6_method_1_code
def yX4_init : MethodName := ⟨RX4, "<init>", "()V"⟩
abbrev cX4_empty : ByteArray := prog_6_method_2_code
def yX4_empty : MethodName := ⟨RX4, "empty", "()V"⟩
abbrev cX4_take : ByteArray := prog_6_method_3_code
def yX4_take : MethodName := ⟨RX4, "take", "(LPledgeWindow$Town;)V"⟩
abbrev cX4_addPromise : ByteArray := prog_6_method_4_code
def yX4_addPromise : MethodName := ⟨RX4, "addPromise", "(II)I"⟩
abbrev cX4_addHearer : ByteArray := prog_6_method_5_code
def yX4_addHearer : MethodName := ⟨RX4, "addHearer", "(II)I"⟩
abbrev cX4_addBuyer : ByteArray := prog_6_method_6_code
def yX4_addBuyer : MethodName := ⟨RX4, "addBuyer", "(I)I"⟩
abbrev cX4_hasPromise : ByteArray := prog_6_method_7_code
def yX4_hasPromise : MethodName := ⟨RX4, "hasPromise", "(I)Z"⟩
abbrev cX4_hasHearer : ByteArray := prog_6_method_8_code
def yX4_hasHearer : MethodName := ⟨RX4, "hasHearer", "(I)Z"⟩
abbrev cX4_hasBuyer : ByteArray := prog_6_method_9_code
def yX4_hasBuyer : MethodName := ⟨RX4, "hasBuyer", "(I)Z"⟩
abbrev cX4_isInWindow : ByteArray := prog_6_method_10_code
def yX4_isInWindow : MethodName := ⟨RX4, "isInWindow", "(I)Z"⟩
abbrev cX4_isHeld : ByteArray := prog_6_method_11_code
def yX4_isHeld : MethodName := ⟨RX4, "isHeld", "(I)Z"⟩
abbrev cX4_goodBehind : ByteArray := prog_6_method_12_code
def yX4_goodBehind : MethodName := ⟨RX4, "goodBehind", "(II)I"⟩
abbrev cX4_priceOf : ByteArray := prog_6_method_13_code
def yX4_priceOf : MethodName := ⟨RX4, "priceOf", "(I)I"⟩
abbrev cX4_joyTo : ByteArray := prog_6_method_14_code
def yX4_joyTo : MethodName := ⟨RX4, "joyTo", "(II)I"⟩
abbrev cX4_passDays : ByteArray := prog_6_method_15_code
def yX4_passDays : MethodName := ⟨RX4, "passDays", "(I)V"⟩
abbrev cX4_canSell : ByteArray := prog_6_method_16_code
def yX4_canSell : MethodName := ⟨RX4, "canSell", "(II)Z"⟩
abbrev cX4_sell : ByteArray := prog_6_method_17_code
def yX4_sell : MethodName := ⟨RX4, "sell", "(II)V"⟩
abbrev cX4_give : ByteArray := prog_6_method_18_code
def yX4_give : MethodName := ⟨RX4, "give", "(II)I"⟩
abbrev cX4_bitsAt : ByteArray := prog_6_method_19_code
def yX4_bitsAt : MethodName := ⟨RX4, "bitsAt", "(I)I"⟩
abbrev cX4_keptCount : ByteArray := prog_6_method_20_code
def yX4_keptCount : MethodName := ⟨RX4, "keptCount", "()I"⟩
abbrev cX4_waitingBits : ByteArray := prog_6_method_21_code
def yX4_waitingBits : MethodName := ⟨RX4, "waitingBits", "()I"⟩
abbrev cX4_digestOn : ByteArray := prog_6_method_22_code
def yX4_digestOn : MethodName := ⟨RX4, "digestOn", "(J)J"⟩
def RX5 : String := "PledgeWindow"
def TX5 : u_T := fun k => match k with
  | 0 => ("PledgeWindow", "now", "LPledgeWindow$Shop;", true)
  | 1 => ("PledgeWindow", "imageZero", "LPledgeWindow$Shop;", true)
  | 2 => ("PledgeWindow", "imageOne", "LPledgeWindow$Shop;", true)
  | 3 => ("PledgeWindow", "reader", "LPledgeWindow$Reader;", true)
  | 4 => ("PledgeWindow", "trial", "LPledgeWindow$Town;", true)
  | 5 => ("PledgeWindow", "gains", "[I", true)
  | 6 => ("PledgeWindow", "prices", "[I", true)
  | 7 => ("PledgeWindow", "answers", "[I", true)
  | 8 => ("PledgeWindow", "above", "J", false)
  | 9 => ("PledgeWindow", "below", "J", false)
  | 10 => ("PledgeWindow", "bads", "I", false)
  | 11 => ("PledgeWindow", "noes", "I", false)
  | _ => ("PledgeWindow", "fulls", "I", false)
def tyX5 : Nat → FieldType := fun k => match k with
  | 0 => .object "PledgeWindow$Shop"
  | 1 => .object "PledgeWindow$Shop"
  | 2 => .object "PledgeWindow$Shop"
  | 3 => .object "PledgeWindow$Reader"
  | 4 => .object "PledgeWindow$Town"
  | 5 => .array .int
  | 6 => .array .int
  | 7 => .array .int
  | 8 => .long
  | 9 => .long
  | 10 => .int
  | 11 => .int
  | _ => .int
abbrev wsX50 : List Cond := u_ws RX5 TX5 13
theorem nmX5 : ∀ a, a < 13 → ∀ b, b < 13 → a ≠ b → (TX5 a).2.1 ≠ (TX5 b).2.1 := by decide +kernel
theorem tyX5_ok : ∀ k, k < 13 → parseFieldDescriptor (TX5 k).2.2.1 = some (tyX5 k) := by decide +kernel
abbrev cX5_init : ByteArray := prog_1_method_1_code
def yX5_init : MethodName := ⟨RX5, "<init>", "()V"⟩
abbrev cX5_at : ByteArray := prog_1_method_2_code
def yX5_at : MethodName := ⟨RX5, "at", "([II)I"⟩
abbrev cX5_put : ByteArray := prog_1_method_3_code
def yX5_put : MethodName := ⟨RX5, "put", "([III)V"⟩
abbrev cX5_copyCells : ByteArray := prog_1_method_4_code
def yX5_copyCells : MethodName := ⟨RX5, "copyCells", "([II[III)V"⟩
abbrev cX5_copyRow : ByteArray := prog_1_method_5_code
def yX5_copyRow : MethodName := ⟨RX5, "copyRow", "([I[I)V"⟩
abbrev cX5_between : ByteArray := prog_1_method_6_code
def yX5_between : MethodName := ⟨RX5, "between", "(III)Z"⟩
abbrev cX5_has : ByteArray := prog_1_method_7_code
def yX5_has : MethodName := ⟨RX5, "has", "(II)Z"⟩
abbrev cX5_without : ByteArray := prog_1_method_8_code
def yX5_without : MethodName := ⟨RX5, "without", "(II)I"⟩
abbrev cX5_bad : ByteArray := prog_1_method_9_code
def yX5_bad : MethodName := ⟨RX5, "bad", "()I"⟩
abbrev cX5_bad_ : ByteArray := prog_1_method_10_code
def yX5_bad_ : MethodName := ⟨RX5, "bad", "(I)I"⟩
abbrev cX5_no : ByteArray := prog_1_method_11_code
def yX5_no : MethodName := ⟨RX5, "no", "()I"⟩
abbrev cX5_full : ByteArray := prog_1_method_12_code
def yX5_full : MethodName := ⟨RX5, "full", "()I"⟩
abbrev cX5_goodOf : ByteArray := prog_1_method_13_code
def yX5_goodOf : MethodName := ⟨RX5, "goodOf", "(III)I"⟩
abbrev cX5_joyOf : ByteArray := prog_1_method_14_code
def yX5_joyOf : MethodName := ⟨RX5, "joyOf", "(III)I"⟩
abbrev cX5_town : ByteArray := prog_1_method_15_code
def yX5_town : MethodName := ⟨RX5, "town", "()I"⟩
abbrev cX5_promise : ByteArray := prog_1_method_16_code
def yX5_promise : MethodName := ⟨RX5, "promise", "(II)I"⟩
abbrev cX5_hearer : ByteArray := prog_1_method_17_code
def yX5_hearer : MethodName := ⟨RX5, "hearer", "(II)I"⟩
abbrev cX5_buyer : ByteArray := prog_1_method_18_code
def yX5_buyer : MethodName := ⟨RX5, "buyer", "(I)I"⟩
abbrev cX5_type : ByteArray := prog_1_method_19_code
def yX5_type : MethodName := ⟨RX5, "type", "(I)I"⟩
abbrev cX5_clear : ByteArray := prog_1_method_20_code
def yX5_clear : MethodName := ⟨RX5, "clear", "()I"⟩
abbrev cX5_read : ByteArray := prog_1_method_21_code
def yX5_read : MethodName := ⟨RX5, "read", "()I"⟩
abbrev cX5_days : ByteArray := prog_1_method_22_code
def yX5_days : MethodName := ⟨RX5, "days", "(I)I"⟩
abbrev cX5_buys : ByteArray := prog_1_method_23_code
def yX5_buys : MethodName := ⟨RX5, "buys", "(II)I"⟩
abbrev cX5_keeps : ByteArray := prog_1_method_24_code
def yX5_keeps : MethodName := ⟨RX5, "keeps", "(II)I"⟩
abbrev cX5_undo : ByteArray := prog_1_method_25_code
def yX5_undo : MethodName := ⟨RX5, "undo", "()I"⟩
abbrev cX5_of : ByteArray := prog_1_method_26_code
def yX5_of : MethodName := ⟨RX5, "of", "(II)I"⟩
abbrev cX5_about : ByteArray := prog_1_method_27_code
def yX5_about : MethodName := ⟨RX5, "about", "(II)I"⟩
abbrev cX5_purse : ByteArray := prog_1_method_28_code
def yX5_purse : MethodName := ⟨RX5, "purse", "(II)I"⟩
abbrev cX5_good : ByteArray := prog_1_method_29_code
def yX5_good : MethodName := ⟨RX5, "good", "(II)I"⟩
abbrev cX5_joy : ByteArray := prog_1_method_30_code
def yX5_joy : MethodName := ⟨RX5, "joy", "(II)I"⟩
abbrev cX5_when : ByteArray := prog_1_method_31_code
def yX5_when : MethodName := ⟨RX5, "when", "(II)I"⟩
abbrev cX5_waits : ByteArray := prog_1_method_32_code
def yX5_waits : MethodName := ⟨RX5, "waits", "()I"⟩
abbrev cX5_fit : ByteArray := prog_1_method_33_code
def yX5_fit : MethodName := ⟨RX5, "fit", "(I)I"⟩
abbrev cX5_buy : ByteArray := prog_1_method_34_code
def yX5_buy : MethodName := ⟨RX5, "buy", "(III)I"⟩
abbrev cX5_cheap : ByteArray := prog_1_method_35_code
def yX5_cheap : MethodName := ⟨RX5, "cheap", "()I"⟩
abbrev cX5_weigh : ByteArray := prog_1_method_36_code
def yX5_weigh : MethodName := ⟨RX5, "weigh", "()V"⟩
abbrev cX5_mostJoy : ByteArray := prog_1_method_37_code
def yX5_mostJoy : MethodName := ⟨RX5, "mostJoy", "([IIII)I"⟩
abbrev cX5_firstFor : ByteArray := prog_1_method_38_code
def yX5_firstFor : MethodName := ⟨RX5, "firstFor", "(II)I"⟩
abbrev cX5_sumOver : ByteArray := prog_1_method_39_code
def yX5_sumOver : MethodName := ⟨RX5, "sumOver", "([III)I"⟩
abbrev cX5_bestBuy : ByteArray := prog_1_method_40_code
def yX5_bestBuy : MethodName := ⟨RX5, "bestBuy", "(III)I"⟩
abbrev cX5_leastPrice : ByteArray := prog_1_method_41_code
def yX5_leastPrice : MethodName := ⟨RX5, "leastPrice", "([I[IIII)I"⟩
abbrev cX5_seen : ByteArray := prog_1_method_42_code
def yX5_seen : MethodName := ⟨RX5, "seen", "(II)I"⟩
abbrev cX5_which : ByteArray := prog_1_method_43_code
def yX5_which : MethodName := ⟨RX5, "which", "()I"⟩
abbrev cX5_tell : ByteArray := prog_1_method_44_code
def yX5_tell : MethodName := ⟨RX5, "tell", "()I"⟩
abbrev cX5_note : ByteArray := prog_1_method_45_code
def yX5_note : MethodName := ⟨RX5, "note", "(IIII)I"⟩
abbrev cX5_mark : ByteArray := prog_1_method_46_code
def yX5_mark : MethodName := ⟨RX5, "mark", "(IIII)I"⟩
abbrev cX5_forget : ByteArray := prog_1_method_47_code
def yX5_forget : MethodName := ⟨RX5, "forget", "(I)I"⟩
abbrev cX5_is : ByteArray := prog_1_method_48_code
def yX5_is : MethodName := ⟨RX5, "is", "(I)I"⟩
abbrev cX5_look : ByteArray := prog_1_method_49_code
def yX5_look : MethodName := ⟨RX5, "look", "(I)I"⟩
abbrev cX5_kinds : ByteArray := prog_1_method_50_code
def yX5_kinds : MethodName := ⟨RX5, "kinds", "(I)I"⟩
abbrev cX5_ask : ByteArray := prog_1_method_51_code
def yX5_ask : MethodName := ⟨RX5, "ask", "(I)I"⟩
abbrev cX5_answerOf : ByteArray := prog_1_method_52_code
def yX5_answerOf : MethodName := ⟨RX5, "answerOf", "(IIII)I"⟩
abbrev cX5_agreeing : ByteArray := prog_1_method_53_code
def yX5_agreeing : MethodName := ⟨RX5, "agreeing", "(III)I"⟩
abbrev cX5_agrees : ByteArray := prog_1_method_54_code
def yX5_agrees : MethodName := ⟨RX5, "agrees", "(III)Z"⟩
abbrev cX5_bestParting : ByteArray := prog_1_method_55_code
def yX5_bestParting : MethodName := ⟨RX5, "bestParting", "(IIII)I"⟩
abbrev cX5_largestCrowd : ByteArray := prog_1_method_56_code
def yX5_largestCrowd : MethodName := ⟨RX5, "largestCrowd", "([II)I"⟩
abbrev cX5_bids : ByteArray := prog_1_method_57_code
def yX5_bids : MethodName := ⟨RX5, "bids", "(IIIII)I"⟩
abbrev cX5_firstGets : ByteArray := prog_1_method_58_code
def yX5_firstGets : MethodName := ⟨RX5, "firstGets", "(III)I"⟩
abbrev cX5_secondGets : ByteArray := prog_1_method_59_code
def yX5_secondGets : MethodName := ⟨RX5, "secondGets", "(III)I"⟩
abbrev cX5_rests : ByteArray := prog_1_method_60_code
def yX5_rests : MethodName := ⟨RX5, "rests", "(III)Z"⟩
abbrev cX5_redeemed : ByteArray := prog_1_method_61_code
def yX5_redeemed : MethodName := ⟨RX5, "redeemed", "(I)I"⟩
abbrev cX5_setFraction : ByteArray := prog_1_method_62_code
def yX5_setFraction : MethodName := ⟨RX5, "setFraction", "(JJ)V"⟩
abbrev cX5_commonDivisor : ByteArray := prog_1_method_63_code
def yX5_commonDivisor : MethodName := ⟨RX5, "commonDivisor", "(JJ)J"⟩
abbrev cX5_years : ByteArray := prog_1_method_64_code
def yX5_years : MethodName := ⟨RX5, "years", "(II)I"⟩
abbrev cX5_part : ByteArray := prog_1_method_65_code
def yX5_part : MethodName := ⟨RX5, "part", "(I)J"⟩
abbrev cX5_image : ByteArray := prog_1_method_66_code
def yX5_image : MethodName := ⟨RX5, "image", "(I)I"⟩
abbrev cX5_from : ByteArray := prog_1_method_67_code
def yX5_from : MethodName := ⟨RX5, "from", "(I)I"⟩
abbrev cX5_imageOf : ByteArray := prog_1_method_68_code
def yX5_imageOf : MethodName := ⟨RX5, "imageOf", "(I)LPledgeWindow$Shop;"⟩
abbrev cX5_status : ByteArray := prog_1_method_69_code
def yX5_status : MethodName := ⟨RX5, "status", "(I)I"⟩
abbrev cX5_count : ByteArray := prog_1_method_70_code
def yX5_count : MethodName := ⟨RX5, "count", "(I)I"⟩
abbrev cX5_countOf : ByteArray := prog_1_method_71_code
def yX5_countOf : MethodName := ⟨RX5, "countOf", "(I)I"⟩
abbrev cX5_digest : ByteArray := prog_1_method_72_code
def yX5_digest : MethodName := ⟨RX5, "digest", "()J"⟩
def RX6 : String := "PledgeWindowModel"
def TX6 : u_T := fun k => match k with
  | 0 => ("PledgeWindowModel", "all", "[I", true)
  | 1 => ("PledgeWindowModel", "kept", "[I", true)
  | 2 => ("PledgeWindowModel", "isKept", "[Z", true)
  | 3 => ("PledgeWindowModel", "refused", "[I", true)
  | 4 => ("PledgeWindowModel", "above", "J", false)
  | 5 => ("PledgeWindowModel", "below", "J", false)
  | 6 => ("PledgeWindowModel", "meant", "[I", true)
  | 7 => ("PledgeWindowModel", "bestMeant", "[I", true)
  | 8 => ("PledgeWindowModel", "tells", "[I", true)
  | 9 => ("PledgeWindowModel", "hand", "[I", true)
  | 10 => ("PledgeWindowModel", "bytes", "[I", true)
  | 11 => ("PledgeWindowModel", "bytesLong", "I", false)
  | 12 => ("PledgeWindowModel", "tokenAt", "I", false)
  | 13 => ("PledgeWindowModel", "tokenLong", "I", false)
  | 14 => ("PledgeWindowModel", "token", "I", false)
  | 15 => ("PledgeWindowModel", "value", "I", false)
  | 16 => ("PledgeWindowModel", "anew", "[I", true)
  | _ => ("PledgeWindowModel", "values", "[I", true)
def tyX6 : Nat → FieldType := fun k => match k with
  | 0 => .array .int
  | 1 => .array .int
  | 2 => .array .boolean
  | 3 => .array .int
  | 4 => .long
  | 5 => .long
  | 6 => .array .int
  | 7 => .array .int
  | 8 => .array .int
  | 9 => .array .int
  | 10 => .array .int
  | 11 => .int
  | 12 => .int
  | 13 => .int
  | 14 => .int
  | 15 => .int
  | 16 => .array .int
  | _ => .array .int
abbrev wsX60 : List Cond := u_ws RX6 TX6 18
theorem nmX6 : ∀ a, a < 18 → ∀ b, b < 18 → a ≠ b → (TX6 a).2.1 ≠ (TX6 b).2.1 := by decide +kernel
theorem tyX6_ok : ∀ k, k < 18 → parseFieldDescriptor (TX6 k).2.2.1 = some (tyX6 k) := by decide +kernel
abbrev cX6_init : ByteArray := prog_8_method_1_code
def yX6_init : MethodName := ⟨RX6, "<init>", "()V"⟩
abbrev cX6_in : ByteArray := prog_8_method_3_code
def yX6_in : MethodName := ⟨RX6, "in", "(JJJ)Z"⟩
abbrev cX6_bad : ByteArray := prog_8_method_4_code
def yX6_bad : MethodName := ⟨RX6, "bad", "(I)I"⟩
abbrev cX6_no : ByteArray := prog_8_method_5_code
def yX6_no : MethodName := ⟨RX6, "no", "()I"⟩
abbrev cX6_full : ByteArray := prog_8_method_6_code
def yX6_full : MethodName := ⟨RX6, "full", "()I"⟩
abbrev cX6_has : ByteArray := prog_8_method_7_code
def yX6_has : MethodName := ⟨RX6, "has", "(II)Z"⟩
abbrev cX6_begin : ByteArray := prog_8_method_8_code
def yX6_begin : MethodName := ⟨RX6, "begin", "([I)V"⟩
abbrev cX6_many : ByteArray := prog_8_method_9_code
def yX6_many : MethodName := ⟨RX6, "many", "()I"⟩
abbrev cX6_isPromise : ByteArray := prog_8_method_10_code
def yX6_isPromise : MethodName := ⟨RX6, "isPromise", "(I)Z"⟩
abbrev cX6_isHearer : ByteArray := prog_8_method_11_code
def yX6_isHearer : MethodName := ⟨RX6, "isHearer", "(I)Z"⟩
abbrev cX6_isBuyer : ByteArray := prog_8_method_12_code
def yX6_isBuyer : MethodName := ⟨RX6, "isBuyer", "(I)Z"⟩
abbrev cX6_isKind : ByteArray := prog_8_method_13_code
def yX6_isKind : MethodName := ⟨RX6, "isKind", "(I)Z"⟩
abbrev cX6_isNine : ByteArray := prog_8_method_14_code
def yX6_isNine : MethodName := ⟨RX6, "isNine", "(I)Z"⟩
abbrev cX6_town : ByteArray := prog_8_method_15_code
def yX6_town : MethodName := ⟨RX6, "town", "()I"⟩
abbrev cX6_layPromise : ByteArray := prog_8_method_16_code
def yX6_layPromise : MethodName := ⟨RX6, "layPromise", "([III)V"⟩
abbrev cX6_promise : ByteArray := prog_8_method_17_code
def yX6_promise : MethodName := ⟨RX6, "promise", "(II)I"⟩
abbrev cX6_hearer : ByteArray := prog_8_method_18_code
def yX6_hearer : MethodName := ⟨RX6, "hearer", "(II)I"⟩
abbrev cX6_buyer : ByteArray := prog_8_method_19_code
def yX6_buyer : MethodName := ⟨RX6, "buyer", "(I)I"⟩
abbrev cX6_goodAs : ByteArray := prog_8_method_20_code
def yX6_goodAs : MethodName := ⟨RX6, "goodAs", "(III)I"⟩
abbrev cX6_joyAs : ByteArray := prog_8_method_21_code
def yX6_joyAs : MethodName := ⟨RX6, "joyAs", "(III)I"⟩
abbrev cX6_goodOf : ByteArray := prog_8_method_22_code
def yX6_goodOf : MethodName := ⟨RX6, "goodOf", "([II)I"⟩
abbrev cX6_priceOf : ByteArray := prog_8_method_23_code
def yX6_priceOf : MethodName := ⟨RX6, "priceOf", "([II)I"⟩
abbrev cX6_joyOf : ByteArray := prog_8_method_24_code
def yX6_joyOf : MethodName := ⟨RX6, "joyOf", "([III)I"⟩
abbrev cX6_isShown : ByteArray := prog_8_method_25_code
def yX6_isShown : MethodName := ⟨RX6, "isShown", "([II)Z"⟩
abbrev cX6_isHeld : ByteArray := prog_8_method_26_code
def yX6_isHeld : MethodName := ⟨RX6, "isHeld", "([II)Z"⟩
abbrev cX6_goDay : ByteArray := prog_8_method_27_code
def yX6_goDay : MethodName := ⟨RX6, "goDay", "([I)V"⟩
abbrev cX6_goDays : ByteArray := prog_8_method_28_code
def yX6_goDays : MethodName := ⟨RX6, "goDays", "([II)V"⟩
abbrev cX6_save : ByteArray := prog_8_method_29_code
def yX6_save : MethodName := ⟨RX6, "save", "()V"⟩
abbrev cX6_days : ByteArray := prog_8_method_30_code
def yX6_days : MethodName := ⟨RX6, "days", "(I)I"⟩
abbrev cX6_mayBuy : ByteArray := prog_8_method_31_code
def yX6_mayBuy : MethodName := ⟨RX6, "mayBuy", "([III)Z"⟩
abbrev cX6_goBuy : ByteArray := prog_8_method_32_code
def yX6_goBuy : MethodName := ⟨RX6, "goBuy", "([III)V"⟩
abbrev cX6_goKeep : ByteArray := prog_8_method_33_code
def yX6_goKeep : MethodName := ⟨RX6, "goKeep", "([III)V"⟩
abbrev cX6_buys : ByteArray := prog_8_method_34_code
def yX6_buys : MethodName := ⟨RX6, "buys", "(II)I"⟩
abbrev cX6_keeps : ByteArray := prog_8_method_35_code
def yX6_keeps : MethodName := ⟨RX6, "keeps", "(II)I"⟩
abbrev cX6_undo : ByteArray := prog_8_method_36_code
def yX6_undo : MethodName := ⟨RX6, "undo", "()I"⟩
abbrev cX6_toldOf : ByteArray := prog_8_method_37_code
def yX6_toldOf : MethodName := ⟨RX6, "toldOf", "(II)I"⟩
abbrev cX6_of : ByteArray := prog_8_method_38_code
def yX6_of : MethodName := ⟨RX6, "of", "(II)I"⟩
abbrev cX6_allIn : ByteArray := prog_8_method_39_code
def yX6_allIn : MethodName := ⟨RX6, "allIn", "(I)I"⟩
abbrev cX6_about : ByteArray := prog_8_method_40_code
def yX6_about : MethodName := ⟨RX6, "about", "(II)I"⟩
abbrev cX6_purse : ByteArray := prog_8_method_41_code
def yX6_purse : MethodName := ⟨RX6, "purse", "(II)I"⟩
abbrev cX6_goodBehind : ByteArray := prog_8_method_42_code
def yX6_goodBehind : MethodName := ⟨RX6, "goodBehind", "(II)I"⟩
abbrev cX6_good : ByteArray := prog_8_method_43_code
def yX6_good : MethodName := ⟨RX6, "good", "(II)I"⟩
abbrev cX6_joy : ByteArray := prog_8_method_44_code
def yX6_joy : MethodName := ⟨RX6, "joy", "(II)I"⟩
abbrev cX6_when : ByteArray := prog_8_method_45_code
def yX6_when : MethodName := ⟨RX6, "when", "(II)I"⟩
abbrev cX6_waiting : ByteArray := prog_8_method_46_code
def yX6_waiting : MethodName := ⟨RX6, "waiting", "()I"⟩
abbrev cX6_waits : ByteArray := prog_8_method_47_code
def yX6_waits : MethodName := ⟨RX6, "waits", "()I"⟩
abbrev cX6_means : ByteArray := prog_8_method_48_code
def yX6_means : MethodName := ⟨RX6, "means", "(I)Z"⟩
abbrev cX6_codes : ByteArray := prog_8_method_49_code
def yX6_codes : MethodName := ⟨RX6, "codes", "()I"⟩
abbrev cX6_fit : ByteArray := prog_8_method_50_code
def yX6_fit : MethodName := ⟨RX6, "fit", "(I)I"⟩
abbrev cX6_buy : ByteArray := prog_8_method_51_code
def yX6_buy : MethodName := ⟨RX6, "buy", "(III)I"⟩
abbrev cX6_cheap : ByteArray := prog_8_method_52_code
def yX6_cheap : MethodName := ⟨RX6, "cheap", "()I"⟩
abbrev cX6_seen : ByteArray := prog_8_method_53_code
def yX6_seen : MethodName := ⟨RX6, "seen", "(II)I"⟩
abbrev cX6_seenOnes : ByteArray := prog_8_method_54_code
def yX6_seenOnes : MethodName := ⟨RX6, "seenOnes", "()I"⟩
abbrev cX6_which : ByteArray := prog_8_method_55_code
def yX6_which : MethodName := ⟨RX6, "which", "()I"⟩
abbrev cX6_mostAlike : ByteArray := prog_8_method_56_code
def yX6_mostAlike : MethodName := ⟨RX6, "mostAlike", "(I)I"⟩
abbrev cX6_tell : ByteArray := prog_8_method_57_code
def yX6_tell : MethodName := ⟨RX6, "tell", "()I"⟩
abbrev cX6_layFour : ByteArray := prog_8_method_58_code
def yX6_layFour : MethodName := ⟨RX6, "layFour", "(IIIII)V"⟩
abbrev cX6_note : ByteArray := prog_8_method_59_code
def yX6_note : MethodName := ⟨RX6, "note", "(IIII)I"⟩
abbrev cX6_mark : ByteArray := prog_8_method_60_code
def yX6_mark : MethodName := ⟨RX6, "mark", "(IIII)I"⟩
abbrev cX6_forget : ByteArray := prog_8_method_61_code
def yX6_forget : MethodName := ⟨RX6, "forget", "(I)I"⟩
abbrev cX6_kindsOfPromise : ByteArray := prog_8_method_62_code
def yX6_kindsOfPromise : MethodName := ⟨RX6, "kindsOfPromise", "(I)I"⟩
abbrev cX6_kindsOfHearer : ByteArray := prog_8_method_63_code
def yX6_kindsOfHearer : MethodName := ⟨RX6, "kindsOfHearer", "(I)I"⟩
abbrev cX6_is : ByteArray := prog_8_method_64_code
def yX6_is : MethodName := ⟨RX6, "is", "(I)I"⟩
abbrev cX6_look : ByteArray := prog_8_method_65_code
def yX6_look : MethodName := ⟨RX6, "look", "(I)I"⟩
abbrev cX6_kinds : ByteArray := prog_8_method_66_code
def yX6_kinds : MethodName := ⟨RX6, "kinds", "(I)I"⟩
abbrev cX6_ask : ByteArray := prog_8_method_67_code
def yX6_ask : MethodName := ⟨RX6, "ask", "(I)I"⟩
abbrev cX6_getsBy : ByteArray := prog_8_method_68_code
def yX6_getsBy : MethodName := ⟨RX6, "getsBy", "(IIZI)I"⟩
abbrev cX6_rests : ByteArray := prog_8_method_69_code
def yX6_rests : MethodName := ⟨RX6, "rests", "(III)Z"⟩
abbrev cX6_bids : ByteArray := prog_8_method_70_code
def yX6_bids : MethodName := ⟨RX6, "bids", "(IIIII)I"⟩
abbrev cX6_fraction : ByteArray := prog_8_method_71_code
def yX6_fraction : MethodName := ⟨RX6, "fraction", "(JJ)V"⟩
abbrev cX6_redeemed : ByteArray := prog_8_method_72_code
def yX6_redeemed : MethodName := ⟨RX6, "redeemed", "(I)I"⟩
abbrev cX6_years : ByteArray := prog_8_method_73_code
def yX6_years : MethodName := ⟨RX6, "years", "(II)I"⟩
abbrev cX6_type : ByteArray := prog_8_method_74_code
def yX6_type : MethodName := ⟨RX6, "type", "(I)I"⟩
abbrev cX6_clear : ByteArray := prog_8_method_75_code
def yX6_clear : MethodName := ⟨RX6, "clear", "()I"⟩
abbrev cX6_isSmall : ByteArray := prog_8_method_76_code
def yX6_isSmall : MethodName := ⟨RX6, "isSmall", "(I)Z"⟩
abbrev cX6_isFigure : ByteArray := prog_8_method_77_code
def yX6_isFigure : MethodName := ⟨RX6, "isFigure", "(I)Z"⟩
abbrev cX6_lookAt : ByteArray := prog_8_method_78_code
def yX6_lookAt : MethodName := ⟨RX6, "lookAt", "(I)V"⟩
abbrev cX6_goBehind : ByteArray := prog_8_method_79_code
def yX6_goBehind : MethodName := ⟨RX6, "goBehind", "()V"⟩
abbrev cX6_spells : ByteArray := prog_8_method_80_code
def yX6_spells : MethodName := ⟨RX6, "spells", "(IIIIIII)Z"⟩
abbrev cX6_takes : ByteArray := prog_8_method_81_code
def yX6_takes : MethodName := ⟨RX6, "takes", "(III)Z"⟩
abbrev cX6_takesPromise : ByteArray := prog_8_method_82_code
def yX6_takesPromise : MethodName := ⟨RX6, "takesPromise", "()Z"⟩
abbrev cX6_takesHearer : ByteArray := prog_8_method_83_code
def yX6_takesHearer : MethodName := ⟨RX6, "takesHearer", "()Z"⟩
abbrev cX6_takesBuyer : ByteArray := prog_8_method_84_code
def yX6_takesBuyer : MethodName := ⟨RX6, "takesBuyer", "()Z"⟩
abbrev cX6_takesBuy : ByteArray := prog_8_method_85_code
def yX6_takesBuy : MethodName := ⟨RX6, "takesBuy", "()Z"⟩
abbrev cX6_takesKeep : ByteArray := prog_8_method_86_code
def yX6_takesKeep : MethodName := ⟨RX6, "takesKeep", "()Z"⟩
abbrev cX6_takesDays : ByteArray := prog_8_method_87_code
def yX6_takesDays : MethodName := ⟨RX6, "takesDays", "()Z"⟩
abbrev cX6_spellsPromise : ByteArray := prog_8_method_88_code
def yX6_spellsPromise : MethodName := ⟨RX6, "spellsPromise", "()Z"⟩
abbrev cX6_takesItem : ByteArray := prog_8_method_89_code
def yX6_takesItem : MethodName := ⟨RX6, "takesItem", "()Z"⟩
abbrev cX6_read : ByteArray := prog_8_method_90_code
def yX6_read : MethodName := ⟨RX6, "read", "()I"⟩
abbrev cX6_part : ByteArray := prog_8_method_91_code
def yX6_part : MethodName := ⟨RX6, "part", "(I)J"⟩
abbrev cX6_image : ByteArray := prog_8_method_92_code
def yX6_image : MethodName := ⟨RX6, "image", "(I)I"⟩
abbrev cX6_from : ByteArray := prog_8_method_93_code
def yX6_from : MethodName := ⟨RX6, "from", "(I)I"⟩
abbrev cX6_status : ByteArray := prog_8_method_94_code
def yX6_status : MethodName := ⟨RX6, "status", "(I)I"⟩
abbrev cX6_counted : ByteArray := prog_8_method_95_code
def yX6_counted : MethodName := ⟨RX6, "counted", "(I)I"⟩
abbrev cX6_count : ByteArray := prog_8_method_96_code
def yX6_count : MethodName := ⟨RX6, "count", "(I)I"⟩
abbrev cX6_sums : ByteArray := prog_8_method_97_code
def yX6_sums : MethodName := ⟨RX6, "sums", "(JII)J"⟩
abbrev cX6_digest : ByteArray := prog_8_method_98_code
def yX6_digest : MethodName := ⟨RX6, "digest", "()J"⟩
def RJ6 : String := "java/lang/Integer"
def TJ6 : u_T := fun k => match k with
  | _ => ("", "", "", false)
def tyJ6 : Nat → FieldType := fun k => match k with
  | _ => .int
abbrev wsJ60 : List Cond := u_ws RJ6 TJ6 0
theorem nmJ6 : ∀ a, a < 0 → ∀ b, b < 0 → a ≠ b → (TJ6 a).2.1 ≠ (TJ6 b).2.1 := by decide +kernel
theorem tyJ6_ok : ∀ k, k < 0 → parseFieldDescriptor (TJ6 k).2.2.1 = some (tyJ6 k) := by decide +kernel
abbrev cJ6_bitCount_0f7a4 : ByteArray := prog_9_method_49_code
def yJ6_bitCount_0f7a4 : MethodName := ⟨RJ6, "bitCount", "(I)I"⟩
def RJ9 : String := "java/lang/Math"
def TJ9 : u_T := fun k => match k with
  | _ => ("", "", "", false)
def tyJ9 : Nat → FieldType := fun k => match k with
  | _ => .int
abbrev wsJ90 : List Cond := u_ws RJ9 TJ9 0
theorem nmJ9 : ∀ a, a < 0 → ∀ b, b < 0 → a ≠ b → (TJ9 a).2.1 ≠ (TJ9 b).2.1 := by decide +kernel
theorem tyJ9_ok : ∀ k, k < 0 → parseFieldDescriptor (TJ9 k).2.2.1 = some (tyJ9 k) := by decide +kernel
abbrev cJ9_abs_0f7a4 : ByteArray := prog_10_method_59_code
def yJ9_abs_0f7a4 : MethodName := ⟨RJ9, "abs", "(I)I"⟩
abbrev cJ9_max_7cf53 : ByteArray := prog_10_method_65_code
def yJ9_max_7cf53 : MethodName := ⟨RJ9, "max", "(II)I"⟩
abbrev cJ9_min_7cf53 : ByteArray := prog_10_method_69_code
def yJ9_min_7cf53 : MethodName := ⟨RJ9, "min", "(II)I"⟩
def RJ0 : String := "java/lang/String"
def TJ0 : u_T := fun k => match k with
  | _ => ("", "", "", false)
def tyJ0 : Nat → FieldType := fun k => match k with
  | _ => .int
abbrev wsJ00 : List Cond := u_ws RJ0 TJ0 0
theorem nmJ0 : ∀ a, a < 0 → ∀ b, b < 0 → a ≠ b → (TJ0 a).2.1 ≠ (TJ0 b).2.1 := by decide +kernel
theorem tyJ0_ok : ∀ k, k < 0 → parseFieldDescriptor (TJ0 k).2.2.1 = some (tyJ0 k) := by decide +kernel
abbrev cJ0_length_8abf5 : ByteArray := prog_11_method_54_code
def yJ0_length_8abf5 : MethodName := ⟨RJ0, "length", "()I"⟩
abbrev cJ0_charAt_5068e : ByteArray := prog_11_method_56_code
def yJ0_charAt_5068e : MethodName := ⟨RJ0, "charAt", "(I)C"⟩
abbrev cJ0_coder_7d493 : ByteArray := prog_11_method_152_code
def yJ0_coder_7d493 : MethodName := ⟨RJ0, "coder", "()B"⟩
abbrev cJ0_isLatin1_aae02 : ByteArray := prog_11_method_154_code
def yJ0_isLatin1_aae02 : MethodName := ⟨RJ0, "isLatin1", "()Z"⟩
abbrev cJ0_checkIndex_df160 : ByteArray := prog_11_method_155_code
def yJ0_checkIndex_df160 : MethodName := ⟨RJ0, "checkIndex", "(II)V"⟩
def RJ1 : String := "java/lang/StringLatin1"
def TJ1 : u_T := fun k => match k with
  | _ => ("", "", "", false)
def tyJ1 : Nat → FieldType := fun k => match k with
  | _ => .int
abbrev wsJ10 : List Cond := u_ws RJ1 TJ1 0
theorem nmJ1 : ∀ a, a < 0 → ∀ b, b < 0 → a ≠ b → (TJ1 a).2.1 ≠ (TJ1 b).2.1 := by decide +kernel
theorem tyJ1_ok : ∀ k, k < 0 → parseFieldDescriptor (TJ1 k).2.2.1 = some (tyJ1 k) := by decide +kernel
abbrev cJ1_charAt_3b067 : ByteArray := prog_12_method_2_code
def yJ1_charAt_3b067 : MethodName := ⟨RJ1, "charAt", "([BI)C"⟩
def RJ2 : String := "java/lang/StringUTF16"
def TJ2 : u_T := fun k => match k with
  | _ => ("", "", "", false)
def tyJ2 : Nat → FieldType := fun k => match k with
  | _ => .int
abbrev wsJ20 : List Cond := u_ws RJ2 TJ2 0
theorem nmJ2 : ∀ a, a < 0 → ∀ b, b < 0 → a ≠ b → (TJ2 a).2.1 ≠ (TJ2 b).2.1 := by decide +kernel
theorem tyJ2_ok : ∀ k, k < 0 → parseFieldDescriptor (TJ2 k).2.2.1 = some (tyJ2 k) := by decide +kernel
abbrev cJ2_getChar_3b067 : ByteArray := prog_13_method_5_code
def yJ2_getChar_3b067 : MethodName := ⟨RJ2, "getChar", "([BI)C"⟩
abbrev cJ2_length_9d52b : ByteArray := prog_13_method_6_code
def yJ2_length_9d52b : MethodName := ⟨RJ2, "length", "([B)I"⟩
abbrev cJ2_charAt_3b067 : ByteArray := prog_13_method_83_code
def yJ2_charAt_3b067 : MethodName := ⟨RJ2, "charAt", "([BI)C"⟩
abbrev cJ2_checkIndex_2214a : ByteArray := prog_13_method_91_code
def yJ2_checkIndex_2214a : MethodName := ⟨RJ2, "checkIndex", "(I[B)V"⟩
def RJ10 : String := "java/lang/System"
def TJ10 : u_T := fun k => match k with
  | _ => ("", "", "", false)
def tyJ10 : Nat → FieldType := fun k => match k with
  | _ => .int
abbrev wsJ100 : List Cond := u_ws RJ10 TJ10 0
theorem nmJ10 : ∀ a, a < 0 → ∀ b, b < 0 → a ≠ b → (TJ10 a).2.1 ≠ (TJ10 b).2.1 := by decide +kernel
theorem tyJ10_ok : ∀ k, k < 0 → parseFieldDescriptor (TJ10 k).2.2.1 = some (tyJ10 k) := by decide +kernel
def RJ3 : String := "jdk/internal/util/Preconditions"
def TJ3 : u_T := fun k => match k with
  | _ => ("", "", "", false)
def tyJ3 : Nat → FieldType := fun k => match k with
  | _ => .int
abbrev wsJ30 : List Cond := u_ws RJ3 TJ3 0
theorem nmJ3 : ∀ a, a < 0 → ∀ b, b < 0 → a ≠ b → (TJ3 a).2.1 ≠ (TJ3 b).2.1 := by decide +kernel
theorem tyJ3_ok : ∀ k, k < 0 → parseFieldDescriptor (TJ3 k).2.2.1 = some (tyJ3 k) := by decide +kernel
abbrev cJ3_checkIndex_8e157 : ByteArray := prog_15_method_11_code
def yJ3_checkIndex_8e157 : MethodName := ⟨RJ3, "checkIndex", "(IILjava/util/function/BiFunction;)I"⟩
def RL : String := "PledgeWindowLaw"
abbrev cL_law : ByteArray := code
def yL_law : MethodName := ⟨RL, "law", "([I)Z"⟩
abbrev vwCl : List vw_C := [(RX0, TX0, 3), (RX1, TX1, 2), (RX2, TX2, 9), (RX3, TX3, 6), (RX4, TX4, 12), (RX5, TX5, 13), (RX6, TX6, 18)]
