section
-- ===== PART A: goes FIRST, ahead of the names: the tables' words, and 'selects' of the private methods out of them =====
/-- a private method of a class that the tables say can be made, by its rows of tables_1 -/
def lw_okq (q : MethodName × Nat) : Prop := (q.1.cls ≠ "java/lang/invoke/MethodHandle" ∧ q.1.cls ≠ "java/lang/invoke/VarHandle") ∧ Cond.instantiable q.1.cls q.2 ∈ tables_1 ∧ Cond.privateMethod q.1 ∈ tables_1 ∧ Cond.instanceMethod q.1 ∈ tables_1
theorem lw_p0 : lw_okq (⟨"PledgeWindow$Shop", "empty", "()V"⟩, 6) := ⟨⟨by decide +kernel, by decide +kernel⟩, List.mem_of_getElem? (i := 24) (by decide +kernel), List.mem_of_getElem? (i := 242) (by decide +kernel), List.mem_of_getElem? (i := 243) (by decide +kernel)⟩
theorem lw_p1 : lw_okq (⟨"PledgeWindow$Town", "empty", "()V"⟩, 12) := ⟨⟨by decide +kernel, by decide +kernel⟩, List.mem_of_getElem? (i := 30) (by decide +kernel), List.mem_of_getElem? (i := 246) (by decide +kernel), List.mem_of_getElem? (i := 247) (by decide +kernel)⟩
theorem lw_p2 : lw_okq (⟨"PledgeWindow", "bad", "()I"⟩, 13) := ⟨⟨by decide +kernel, by decide +kernel⟩, List.mem_of_getElem? (i := 16) (by decide +kernel), List.mem_of_getElem? (i := 257) (by decide +kernel), List.mem_of_getElem? (i := 258) (by decide +kernel)⟩
theorem lw_p3 : lw_okq (⟨"PledgeWindow", "bad", "(I)I"⟩, 13) := ⟨⟨by decide +kernel, by decide +kernel⟩, List.mem_of_getElem? (i := 16) (by decide +kernel), List.mem_of_getElem? (i := 261) (by decide +kernel), List.mem_of_getElem? (i := 262) (by decide +kernel)⟩
theorem lw_p4 : lw_okq (⟨"PledgeWindow", "full", "()I"⟩, 13) := ⟨⟨by decide +kernel, by decide +kernel⟩, List.mem_of_getElem? (i := 16) (by decide +kernel), List.mem_of_getElem? (i := 265) (by decide +kernel), List.mem_of_getElem? (i := 266) (by decide +kernel)⟩
theorem lw_p5 : lw_okq (⟨"PledgeWindow$Town", "addPromise", "(II)I"⟩, 12) := ⟨⟨by decide +kernel, by decide +kernel⟩, List.mem_of_getElem? (i := 30) (by decide +kernel), List.mem_of_getElem? (i := 269) (by decide +kernel), List.mem_of_getElem? (i := 270) (by decide +kernel)⟩
theorem lw_p6 : lw_okq (⟨"PledgeWindow$Town", "addHearer", "(II)I"⟩, 12) := ⟨⟨by decide +kernel, by decide +kernel⟩, List.mem_of_getElem? (i := 30) (by decide +kernel), List.mem_of_getElem? (i := 280) (by decide +kernel), List.mem_of_getElem? (i := 281) (by decide +kernel)⟩
theorem lw_p7 : lw_okq (⟨"PledgeWindow$Town", "addBuyer", "(I)I"⟩, 12) := ⟨⟨by decide +kernel, by decide +kernel⟩, List.mem_of_getElem? (i := 30) (by decide +kernel), List.mem_of_getElem? (i := 288) (by decide +kernel), List.mem_of_getElem? (i := 289) (by decide +kernel)⟩
theorem lw_p8 : lw_okq (⟨"PledgeWindow$Reader", "begin", "()V"⟩, 9) := ⟨⟨by decide +kernel, by decide +kernel⟩, List.mem_of_getElem? (i := 155) (by decide +kernel), List.mem_of_getElem? (i := 305) (by decide +kernel), List.mem_of_getElem? (i := 306) (by decide +kernel)⟩
theorem lw_p9 : lw_okq (⟨"PledgeWindow$Reader", "reachesItem", "()Z"⟩, 9) := ⟨⟨by decide +kernel, by decide +kernel⟩, List.mem_of_getElem? (i := 155) (by decide +kernel), List.mem_of_getElem? (i := 310) (by decide +kernel), List.mem_of_getElem? (i := 311) (by decide +kernel)⟩
theorem lw_p10 : lw_okq (⟨"PledgeWindow$Reader", "advance", "()V"⟩, 9) := ⟨⟨by decide +kernel, by decide +kernel⟩, List.mem_of_getElem? (i := 155) (by decide +kernel), List.mem_of_getElem? (i := 314) (by decide +kernel), List.mem_of_getElem? (i := 315) (by decide +kernel)⟩
theorem lw_p11 : lw_okq (⟨"PledgeWindow$Reader", "endOfRun", "(III)I"⟩, 9) := ⟨⟨by decide +kernel, by decide +kernel⟩, List.mem_of_getElem? (i := 155) (by decide +kernel), List.mem_of_getElem? (i := 318) (by decide +kernel), List.mem_of_getElem? (i := 319) (by decide +kernel)⟩
theorem lw_p12 : lw_okq (⟨"PledgeWindow$Reader", "numberAtHand", "()I"⟩, 9) := ⟨⟨by decide +kernel, by decide +kernel⟩, List.mem_of_getElem? (i := 155) (by decide +kernel), List.mem_of_getElem? (i := 326) (by decide +kernel), List.mem_of_getElem? (i := 327) (by decide +kernel)⟩
theorem lw_p13 : lw_okq (⟨"PledgeWindow$Reader", "readItem", "()V"⟩, 9) := ⟨⟨by decide +kernel, by decide +kernel⟩, List.mem_of_getElem? (i := 155) (by decide +kernel), List.mem_of_getElem? (i := 330) (by decide +kernel), List.mem_of_getElem? (i := 331) (by decide +kernel)⟩
theorem lw_p14 : lw_okq (⟨"PledgeWindow$Reader", "wordAtHand", "()I"⟩, 9) := ⟨⟨by decide +kernel, by decide +kernel⟩, List.mem_of_getElem? (i := 155) (by decide +kernel), List.mem_of_getElem? (i := 334) (by decide +kernel), List.mem_of_getElem? (i := 335) (by decide +kernel)⟩
theorem lw_p15 : lw_okq (⟨"PledgeWindow$Reader", "isAtHand", "(Ljava/lang/String;)Z"⟩, 9) := ⟨⟨by decide +kernel, by decide +kernel⟩, List.mem_of_getElem? (i := 155) (by decide +kernel), List.mem_of_getElem? (i := 348) (by decide +kernel), List.mem_of_getElem? (i := 349) (by decide +kernel)⟩
def lw_privs_1 : List (MethodName × Nat) := [(⟨"PledgeWindow$Shop", "empty", "()V"⟩, 6), (⟨"PledgeWindow$Town", "empty", "()V"⟩, 12), (⟨"PledgeWindow", "bad", "()I"⟩, 13), (⟨"PledgeWindow", "bad", "(I)I"⟩, 13), (⟨"PledgeWindow", "full", "()I"⟩, 13), (⟨"PledgeWindow$Town", "addPromise", "(II)I"⟩, 12), (⟨"PledgeWindow$Town", "addHearer", "(II)I"⟩, 12), (⟨"PledgeWindow$Town", "addBuyer", "(I)I"⟩, 12), (⟨"PledgeWindow$Reader", "begin", "()V"⟩, 9), (⟨"PledgeWindow$Reader", "reachesItem", "()Z"⟩, 9), (⟨"PledgeWindow$Reader", "advance", "()V"⟩, 9), (⟨"PledgeWindow$Reader", "endOfRun", "(III)I"⟩, 9), (⟨"PledgeWindow$Reader", "numberAtHand", "()I"⟩, 9), (⟨"PledgeWindow$Reader", "readItem", "()V"⟩, 9), (⟨"PledgeWindow$Reader", "wordAtHand", "()I"⟩, 9), (⟨"PledgeWindow$Reader", "isAtHand", "(Ljava/lang/String;)Z"⟩, 9)]
theorem lw_r1 : ∀ q ∈ lw_privs_1, lw_okq q := List.forall_mem_cons.mpr ⟨lw_p0, List.forall_mem_cons.mpr ⟨lw_p1, List.forall_mem_cons.mpr ⟨lw_p2, List.forall_mem_cons.mpr ⟨lw_p3, List.forall_mem_cons.mpr ⟨lw_p4, List.forall_mem_cons.mpr ⟨lw_p5, List.forall_mem_cons.mpr ⟨lw_p6, List.forall_mem_cons.mpr ⟨lw_p7, List.forall_mem_cons.mpr ⟨lw_p8, List.forall_mem_cons.mpr ⟨lw_p9, List.forall_mem_cons.mpr ⟨lw_p10, List.forall_mem_cons.mpr ⟨lw_p11, List.forall_mem_cons.mpr ⟨lw_p12, List.forall_mem_cons.mpr ⟨lw_p13, List.forall_mem_cons.mpr ⟨lw_p14, List.forall_mem_cons.mpr ⟨lw_p15, fun _ h => absurd h List.not_mem_nil⟩⟩⟩⟩⟩⟩⟩⟩⟩⟩⟩⟩⟩⟩⟩⟩
theorem lw_p16 : lw_okq (⟨"PledgeWindow$Reader", "mayStand", "(I)Z"⟩, 9) := ⟨⟨by decide +kernel, by decide +kernel⟩, List.mem_of_getElem? (i := 155) (by decide +kernel), List.mem_of_getElem? (i := 400) (by decide +kernel), List.mem_of_getElem? (i := 401) (by decide +kernel)⟩
theorem lw_p17 : lw_okq (⟨"PledgeWindow$Reader", "fail", "()V"⟩, 9) := ⟨⟨by decide +kernel, by decide +kernel⟩, List.mem_of_getElem? (i := 155) (by decide +kernel), List.mem_of_getElem? (i := 404) (by decide +kernel), List.mem_of_getElem? (i := 405) (by decide +kernel)⟩
theorem lw_p18 : lw_okq (⟨"PledgeWindow$Reader", "readPromise", "()V"⟩, 9) := ⟨⟨by decide +kernel, by decide +kernel⟩, List.mem_of_getElem? (i := 155) (by decide +kernel), List.mem_of_getElem? (i := 408) (by decide +kernel), List.mem_of_getElem? (i := 409) (by decide +kernel)⟩
theorem lw_p19 : lw_okq (⟨"PledgeWindow$Reader", "readNumber", "(II)I"⟩, 9) := ⟨⟨by decide +kernel, by decide +kernel⟩, List.mem_of_getElem? (i := 155) (by decide +kernel), List.mem_of_getElem? (i := 412) (by decide +kernel), List.mem_of_getElem? (i := 413) (by decide +kernel)⟩
theorem lw_p20 : lw_okq (⟨"PledgeWindow$Reader", "readHearer", "()V"⟩, 9) := ⟨⟨by decide +kernel, by decide +kernel⟩, List.mem_of_getElem? (i := 155) (by decide +kernel), List.mem_of_getElem? (i := 417) (by decide +kernel), List.mem_of_getElem? (i := 418) (by decide +kernel)⟩
theorem lw_p21 : lw_okq (⟨"PledgeWindow$Reader", "readBuyer", "()V"⟩, 9) := ⟨⟨by decide +kernel, by decide +kernel⟩, List.mem_of_getElem? (i := 155) (by decide +kernel), List.mem_of_getElem? (i := 422) (by decide +kernel), List.mem_of_getElem? (i := 423) (by decide +kernel)⟩
theorem lw_p22 : lw_okq (⟨"PledgeWindow$Reader", "readBuy", "()V"⟩, 9) := ⟨⟨by decide +kernel, by decide +kernel⟩, List.mem_of_getElem? (i := 155) (by decide +kernel), List.mem_of_getElem? (i := 427) (by decide +kernel), List.mem_of_getElem? (i := 428) (by decide +kernel)⟩
theorem lw_p23 : lw_okq (⟨"PledgeWindow$Town", "canSell", "(II)Z"⟩, 12) := ⟨⟨by decide +kernel, by decide +kernel⟩, List.mem_of_getElem? (i := 30) (by decide +kernel), List.mem_of_getElem? (i := 431) (by decide +kernel), List.mem_of_getElem? (i := 432) (by decide +kernel)⟩
theorem lw_p24 : lw_okq (⟨"PledgeWindow$Town", "hasBuyer", "(I)Z"⟩, 12) := ⟨⟨by decide +kernel, by decide +kernel⟩, List.mem_of_getElem? (i := 30) (by decide +kernel), List.mem_of_getElem? (i := 435) (by decide +kernel), List.mem_of_getElem? (i := 436) (by decide +kernel)⟩
theorem lw_p25 : lw_okq (⟨"PledgeWindow$Town", "isInWindow", "(I)Z"⟩, 12) := ⟨⟨by decide +kernel, by decide +kernel⟩, List.mem_of_getElem? (i := 30) (by decide +kernel), List.mem_of_getElem? (i := 440) (by decide +kernel), List.mem_of_getElem? (i := 441) (by decide +kernel)⟩
theorem lw_p26 : lw_okq (⟨"PledgeWindow$Town", "hasPromise", "(I)Z"⟩, 12) := ⟨⟨by decide +kernel, by decide +kernel⟩, List.mem_of_getElem? (i := 30) (by decide +kernel), List.mem_of_getElem? (i := 444) (by decide +kernel), List.mem_of_getElem? (i := 445) (by decide +kernel)⟩
theorem lw_p27 : lw_okq (⟨"PledgeWindow$Town", "priceOf", "(I)I"⟩, 12) := ⟨⟨by decide +kernel, by decide +kernel⟩, List.mem_of_getElem? (i := 30) (by decide +kernel), List.mem_of_getElem? (i := 449) (by decide +kernel), List.mem_of_getElem? (i := 450) (by decide +kernel)⟩
theorem lw_p28 : lw_okq (⟨"PledgeWindow$Town", "goodBehind", "(II)I"⟩, 12) := ⟨⟨by decide +kernel, by decide +kernel⟩, List.mem_of_getElem? (i := 30) (by decide +kernel), List.mem_of_getElem? (i := 453) (by decide +kernel), List.mem_of_getElem? (i := 454) (by decide +kernel)⟩
theorem lw_p29 : lw_okq (⟨"PledgeWindow$Town", "sell", "(II)V"⟩, 12) := ⟨⟨by decide +kernel, by decide +kernel⟩, List.mem_of_getElem? (i := 30) (by decide +kernel), List.mem_of_getElem? (i := 464) (by decide +kernel), List.mem_of_getElem? (i := 465) (by decide +kernel)⟩
theorem lw_p30 : lw_okq (⟨"PledgeWindow$Reader", "readKeep", "()V"⟩, 9) := ⟨⟨by decide +kernel, by decide +kernel⟩, List.mem_of_getElem? (i := 155) (by decide +kernel), List.mem_of_getElem? (i := 468) (by decide +kernel), List.mem_of_getElem? (i := 469) (by decide +kernel)⟩
theorem lw_p31 : lw_okq (⟨"PledgeWindow$Town", "isHeld", "(I)Z"⟩, 12) := ⟨⟨by decide +kernel, by decide +kernel⟩, List.mem_of_getElem? (i := 30) (by decide +kernel), List.mem_of_getElem? (i := 472) (by decide +kernel), List.mem_of_getElem? (i := 473) (by decide +kernel)⟩
def lw_privs_2 : List (MethodName × Nat) := [(⟨"PledgeWindow$Reader", "mayStand", "(I)Z"⟩, 9), (⟨"PledgeWindow$Reader", "fail", "()V"⟩, 9), (⟨"PledgeWindow$Reader", "readPromise", "()V"⟩, 9), (⟨"PledgeWindow$Reader", "readNumber", "(II)I"⟩, 9), (⟨"PledgeWindow$Reader", "readHearer", "()V"⟩, 9), (⟨"PledgeWindow$Reader", "readBuyer", "()V"⟩, 9), (⟨"PledgeWindow$Reader", "readBuy", "()V"⟩, 9), (⟨"PledgeWindow$Town", "canSell", "(II)Z"⟩, 12), (⟨"PledgeWindow$Town", "hasBuyer", "(I)Z"⟩, 12), (⟨"PledgeWindow$Town", "isInWindow", "(I)Z"⟩, 12), (⟨"PledgeWindow$Town", "hasPromise", "(I)Z"⟩, 12), (⟨"PledgeWindow$Town", "priceOf", "(I)I"⟩, 12), (⟨"PledgeWindow$Town", "goodBehind", "(II)I"⟩, 12), (⟨"PledgeWindow$Town", "sell", "(II)V"⟩, 12), (⟨"PledgeWindow$Reader", "readKeep", "()V"⟩, 9), (⟨"PledgeWindow$Town", "isHeld", "(I)Z"⟩, 12)]
theorem lw_r2 : ∀ q ∈ lw_privs_2, lw_okq q := List.forall_mem_cons.mpr ⟨lw_p16, List.forall_mem_cons.mpr ⟨lw_p17, List.forall_mem_cons.mpr ⟨lw_p18, List.forall_mem_cons.mpr ⟨lw_p19, List.forall_mem_cons.mpr ⟨lw_p20, List.forall_mem_cons.mpr ⟨lw_p21, List.forall_mem_cons.mpr ⟨lw_p22, List.forall_mem_cons.mpr ⟨lw_p23, List.forall_mem_cons.mpr ⟨lw_p24, List.forall_mem_cons.mpr ⟨lw_p25, List.forall_mem_cons.mpr ⟨lw_p26, List.forall_mem_cons.mpr ⟨lw_p27, List.forall_mem_cons.mpr ⟨lw_p28, List.forall_mem_cons.mpr ⟨lw_p29, List.forall_mem_cons.mpr ⟨lw_p30, List.forall_mem_cons.mpr ⟨lw_p31, fun _ h => absurd h List.not_mem_nil⟩⟩⟩⟩⟩⟩⟩⟩⟩⟩⟩⟩⟩⟩⟩⟩
theorem lw_p32 : lw_okq (⟨"PledgeWindow$Town", "give", "(II)I"⟩, 12) := ⟨⟨by decide +kernel, by decide +kernel⟩, List.mem_of_getElem? (i := 30) (by decide +kernel), List.mem_of_getElem? (i := 476) (by decide +kernel), List.mem_of_getElem? (i := 477) (by decide +kernel)⟩
theorem lw_p33 : lw_okq (⟨"PledgeWindow$Town", "joyTo", "(II)I"⟩, 12) := ⟨⟨by decide +kernel, by decide +kernel⟩, List.mem_of_getElem? (i := 30) (by decide +kernel), List.mem_of_getElem? (i := 480) (by decide +kernel), List.mem_of_getElem? (i := 481) (by decide +kernel)⟩
theorem lw_p34 : lw_okq (⟨"PledgeWindow$Reader", "readDays", "()V"⟩, 9) := ⟨⟨by decide +kernel, by decide +kernel⟩, List.mem_of_getElem? (i := 155) (by decide +kernel), List.mem_of_getElem? (i := 490) (by decide +kernel), List.mem_of_getElem? (i := 491) (by decide +kernel)⟩
theorem lw_p35 : lw_okq (⟨"PledgeWindow$Town", "passDays", "(I)V"⟩, 12) := ⟨⟨by decide +kernel, by decide +kernel⟩, List.mem_of_getElem? (i := 30) (by decide +kernel), List.mem_of_getElem? (i := 494) (by decide +kernel), List.mem_of_getElem? (i := 495) (by decide +kernel)⟩
theorem lw_p36 : lw_okq (⟨"PledgeWindow$Reader", "readStop", "()V"⟩, 9) := ⟨⟨by decide +kernel, by decide +kernel⟩, List.mem_of_getElem? (i := 155) (by decide +kernel), List.mem_of_getElem? (i := 498) (by decide +kernel), List.mem_of_getElem? (i := 499) (by decide +kernel)⟩
theorem lw_p37 : lw_okq (⟨"PledgeWindow$Town", "take", "(LPledgeWindow$Town;)V"⟩, 12) := ⟨⟨by decide +kernel, by decide +kernel⟩, List.mem_of_getElem? (i := 30) (by decide +kernel), List.mem_of_getElem? (i := 502) (by decide +kernel), List.mem_of_getElem? (i := 503) (by decide +kernel)⟩
theorem lw_p38 : lw_okq (⟨"PledgeWindow$Past", "save", "(LPledgeWindow$Town;)V"⟩, 2) := ⟨⟨by decide +kernel, by decide +kernel⟩, List.mem_of_getElem? (i := 94) (by decide +kernel), List.mem_of_getElem? (i := 520) (by decide +kernel), List.mem_of_getElem? (i := 521) (by decide +kernel)⟩
theorem lw_p39 : lw_okq (⟨"PledgeWindow", "no", "()I"⟩, 13) := ⟨⟨by decide +kernel, by decide +kernel⟩, List.mem_of_getElem? (i := 16) (by decide +kernel), List.mem_of_getElem? (i := 534) (by decide +kernel), List.mem_of_getElem? (i := 535) (by decide +kernel)⟩
theorem lw_p40 : lw_okq (⟨"PledgeWindow$Town", "hasHearer", "(I)Z"⟩, 12) := ⟨⟨by decide +kernel, by decide +kernel⟩, List.mem_of_getElem? (i := 30) (by decide +kernel), List.mem_of_getElem? (i := 544) (by decide +kernel), List.mem_of_getElem? (i := 545) (by decide +kernel)⟩
theorem lw_p41 : lw_okq (⟨"PledgeWindow$Past", "restore", "(LPledgeWindow$Town;)V"⟩, 2) := ⟨⟨by decide +kernel, by decide +kernel⟩, List.mem_of_getElem? (i := 94) (by decide +kernel), List.mem_of_getElem? (i := 554) (by decide +kernel), List.mem_of_getElem? (i := 555) (by decide +kernel)⟩
theorem lw_p42 : lw_okq (⟨"PledgeWindow$Town", "bitsAt", "(I)I"⟩, 12) := ⟨⟨by decide +kernel, by decide +kernel⟩, List.mem_of_getElem? (i := 30) (by decide +kernel), List.mem_of_getElem? (i := 569) (by decide +kernel), List.mem_of_getElem? (i := 570) (by decide +kernel)⟩
theorem lw_p43 : lw_okq (⟨"PledgeWindow$Town", "waitingBits", "()I"⟩, 12) := ⟨⟨by decide +kernel, by decide +kernel⟩, List.mem_of_getElem? (i := 30) (by decide +kernel), List.mem_of_getElem? (i := 594) (by decide +kernel), List.mem_of_getElem? (i := 595) (by decide +kernel)⟩
theorem lw_p44 : lw_okq (⟨"PledgeWindow", "weigh", "()V"⟩, 13) := ⟨⟨by decide +kernel, by decide +kernel⟩, List.mem_of_getElem? (i := 16) (by decide +kernel), List.mem_of_getElem? (i := 603) (by decide +kernel), List.mem_of_getElem? (i := 604) (by decide +kernel)⟩
theorem lw_p45 : lw_okq (⟨"PledgeWindow", "firstFor", "(II)I"⟩, 13) := ⟨⟨by decide +kernel, by decide +kernel⟩, List.mem_of_getElem? (i := 16) (by decide +kernel), List.mem_of_getElem? (i := 616) (by decide +kernel), List.mem_of_getElem? (i := 617) (by decide +kernel)⟩
theorem lw_p46 : lw_okq (⟨"PledgeWindow", "bestBuy", "(III)I"⟩, 13) := ⟨⟨by decide +kernel, by decide +kernel⟩, List.mem_of_getElem? (i := 16) (by decide +kernel), List.mem_of_getElem? (i := 624) (by decide +kernel), List.mem_of_getElem? (i := 625) (by decide +kernel)⟩
theorem lw_p47 : lw_okq (⟨"PledgeWindow$Hints", "isFull", "()Z"⟩, 3) := ⟨⟨by decide +kernel, by decide +kernel⟩, List.mem_of_getElem? (i := 109) (by decide +kernel), List.mem_of_getElem? (i := 642) (by decide +kernel), List.mem_of_getElem? (i := 643) (by decide +kernel)⟩
def lw_privs_3 : List (MethodName × Nat) := [(⟨"PledgeWindow$Town", "give", "(II)I"⟩, 12), (⟨"PledgeWindow$Town", "joyTo", "(II)I"⟩, 12), (⟨"PledgeWindow$Reader", "readDays", "()V"⟩, 9), (⟨"PledgeWindow$Town", "passDays", "(I)V"⟩, 12), (⟨"PledgeWindow$Reader", "readStop", "()V"⟩, 9), (⟨"PledgeWindow$Town", "take", "(LPledgeWindow$Town;)V"⟩, 12), (⟨"PledgeWindow$Past", "save", "(LPledgeWindow$Town;)V"⟩, 2), (⟨"PledgeWindow", "no", "()I"⟩, 13), (⟨"PledgeWindow$Town", "hasHearer", "(I)Z"⟩, 12), (⟨"PledgeWindow$Past", "restore", "(LPledgeWindow$Town;)V"⟩, 2), (⟨"PledgeWindow$Town", "bitsAt", "(I)I"⟩, 12), (⟨"PledgeWindow$Town", "waitingBits", "()I"⟩, 12), (⟨"PledgeWindow", "weigh", "()V"⟩, 13), (⟨"PledgeWindow", "firstFor", "(II)I"⟩, 13), (⟨"PledgeWindow", "bestBuy", "(III)I"⟩, 13), (⟨"PledgeWindow$Hints", "isFull", "()Z"⟩, 3)]
theorem lw_r3 : ∀ q ∈ lw_privs_3, lw_okq q := List.forall_mem_cons.mpr ⟨lw_p32, List.forall_mem_cons.mpr ⟨lw_p33, List.forall_mem_cons.mpr ⟨lw_p34, List.forall_mem_cons.mpr ⟨lw_p35, List.forall_mem_cons.mpr ⟨lw_p36, List.forall_mem_cons.mpr ⟨lw_p37, List.forall_mem_cons.mpr ⟨lw_p38, List.forall_mem_cons.mpr ⟨lw_p39, List.forall_mem_cons.mpr ⟨lw_p40, List.forall_mem_cons.mpr ⟨lw_p41, List.forall_mem_cons.mpr ⟨lw_p42, List.forall_mem_cons.mpr ⟨lw_p43, List.forall_mem_cons.mpr ⟨lw_p44, List.forall_mem_cons.mpr ⟨lw_p45, List.forall_mem_cons.mpr ⟨lw_p46, List.forall_mem_cons.mpr ⟨lw_p47, fun _ h => absurd h List.not_mem_nil⟩⟩⟩⟩⟩⟩⟩⟩⟩⟩⟩⟩⟩⟩⟩⟩
theorem lw_p48 : lw_okq (⟨"PledgeWindow$Hints", "add", "(IIII)I"⟩, 3) := ⟨⟨by decide +kernel, by decide +kernel⟩, List.mem_of_getElem? (i := 109) (by decide +kernel), List.mem_of_getElem? (i := 646) (by decide +kernel), List.mem_of_getElem? (i := 647) (by decide +kernel)⟩
theorem lw_p49 : lw_okq (⟨"PledgeWindow", "agreeing", "(III)I"⟩, 13) := ⟨⟨by decide +kernel, by decide +kernel⟩, List.mem_of_getElem? (i := 16) (by decide +kernel), List.mem_of_getElem? (i := 655) (by decide +kernel), List.mem_of_getElem? (i := 656) (by decide +kernel)⟩
theorem lw_p50 : lw_okq (⟨"PledgeWindow", "agrees", "(III)Z"⟩, 13) := ⟨⟨by decide +kernel, by decide +kernel⟩, List.mem_of_getElem? (i := 16) (by decide +kernel), List.mem_of_getElem? (i := 659) (by decide +kernel), List.mem_of_getElem? (i := 660) (by decide +kernel)⟩
theorem lw_p51 : lw_okq (⟨"PledgeWindow$Shop", "hintsOf", "(I)LPledgeWindow$Hints;"⟩, 6) := ⟨⟨by decide +kernel, by decide +kernel⟩, List.mem_of_getElem? (i := 24) (by decide +kernel), List.mem_of_getElem? (i := 663) (by decide +kernel), List.mem_of_getElem? (i := 664) (by decide +kernel)⟩
theorem lw_p52 : lw_okq (⟨"PledgeWindow$Hints", "cell", "(II)I"⟩, 3) := ⟨⟨by decide +kernel, by decide +kernel⟩, List.mem_of_getElem? (i := 109) (by decide +kernel), List.mem_of_getElem? (i := 667) (by decide +kernel), List.mem_of_getElem? (i := 668) (by decide +kernel)⟩
theorem lw_p53 : lw_okq (⟨"PledgeWindow", "answerOf", "(IIII)I"⟩, 13) := ⟨⟨by decide +kernel, by decide +kernel⟩, List.mem_of_getElem? (i := 16) (by decide +kernel), List.mem_of_getElem? (i := 672) (by decide +kernel), List.mem_of_getElem? (i := 673) (by decide +kernel)⟩
theorem lw_p54 : lw_okq (⟨"PledgeWindow", "bestParting", "(IIII)I"⟩, 13) := ⟨⟨by decide +kernel, by decide +kernel⟩, List.mem_of_getElem? (i := 16) (by decide +kernel), List.mem_of_getElem? (i := 683) (by decide +kernel), List.mem_of_getElem? (i := 684) (by decide +kernel)⟩
theorem lw_p55 : lw_okq (⟨"PledgeWindow", "setFraction", "(JJ)V"⟩, 13) := ⟨⟨by decide +kernel, by decide +kernel⟩, List.mem_of_getElem? (i := 16) (by decide +kernel), List.mem_of_getElem? (i := 736) (by decide +kernel), List.mem_of_getElem? (i := 737) (by decide +kernel)⟩
theorem lw_p56 : lw_okq (⟨"PledgeWindow", "imageOf", "(I)LPledgeWindow$Shop;"⟩, 13) := ⟨⟨by decide +kernel, by decide +kernel⟩, List.mem_of_getElem? (i := 16) (by decide +kernel), List.mem_of_getElem? (i := 764) (by decide +kernel), List.mem_of_getElem? (i := 765) (by decide +kernel)⟩
theorem lw_p57 : lw_okq (⟨"PledgeWindow$Shop", "take", "(LPledgeWindow$Shop;)V"⟩, 6) := ⟨⟨by decide +kernel, by decide +kernel⟩, List.mem_of_getElem? (i := 24) (by decide +kernel), List.mem_of_getElem? (i := 768) (by decide +kernel), List.mem_of_getElem? (i := 769) (by decide +kernel)⟩
theorem lw_p58 : lw_okq (⟨"PledgeWindow$Past", "take", "(LPledgeWindow$Past;)V"⟩, 2) := ⟨⟨by decide +kernel, by decide +kernel⟩, List.mem_of_getElem? (i := 94) (by decide +kernel), List.mem_of_getElem? (i := 773) (by decide +kernel), List.mem_of_getElem? (i := 774) (by decide +kernel)⟩
theorem lw_p59 : lw_okq (⟨"PledgeWindow$Hints", "take", "(LPledgeWindow$Hints;)V"⟩, 3) := ⟨⟨by decide +kernel, by decide +kernel⟩, List.mem_of_getElem? (i := 109) (by decide +kernel), List.mem_of_getElem? (i := 778) (by decide +kernel), List.mem_of_getElem? (i := 779) (by decide +kernel)⟩
theorem lw_p60 : lw_okq (⟨"PledgeWindow", "countOf", "(I)I"⟩, 13) := ⟨⟨by decide +kernel, by decide +kernel⟩, List.mem_of_getElem? (i := 16) (by decide +kernel), List.mem_of_getElem? (i := 795) (by decide +kernel), List.mem_of_getElem? (i := 796) (by decide +kernel)⟩
theorem lw_p61 : lw_okq (⟨"PledgeWindow$Town", "keptCount", "()I"⟩, 12) := ⟨⟨by decide +kernel, by decide +kernel⟩, List.mem_of_getElem? (i := 30) (by decide +kernel), List.mem_of_getElem? (i := 805) (by decide +kernel), List.mem_of_getElem? (i := 806) (by decide +kernel)⟩
theorem lw_p62 : lw_okq (⟨"PledgeWindow$Town", "digestOn", "(J)J"⟩, 12) := ⟨⟨by decide +kernel, by decide +kernel⟩, List.mem_of_getElem? (i := 30) (by decide +kernel), List.mem_of_getElem? (i := 816) (by decide +kernel), List.mem_of_getElem? (i := 817) (by decide +kernel)⟩
theorem lw_p63 : lw_okq (⟨"PledgeWindow$Hints", "digestOn", "(JI)J"⟩, 3) := ⟨⟨by decide +kernel, by decide +kernel⟩, List.mem_of_getElem? (i := 109) (by decide +kernel), List.mem_of_getElem? (i := 821) (by decide +kernel), List.mem_of_getElem? (i := 822) (by decide +kernel)⟩
def lw_privs_4 : List (MethodName × Nat) := [(⟨"PledgeWindow$Hints", "add", "(IIII)I"⟩, 3), (⟨"PledgeWindow", "agreeing", "(III)I"⟩, 13), (⟨"PledgeWindow", "agrees", "(III)Z"⟩, 13), (⟨"PledgeWindow$Shop", "hintsOf", "(I)LPledgeWindow$Hints;"⟩, 6), (⟨"PledgeWindow$Hints", "cell", "(II)I"⟩, 3), (⟨"PledgeWindow", "answerOf", "(IIII)I"⟩, 13), (⟨"PledgeWindow", "bestParting", "(IIII)I"⟩, 13), (⟨"PledgeWindow", "setFraction", "(JJ)V"⟩, 13), (⟨"PledgeWindow", "imageOf", "(I)LPledgeWindow$Shop;"⟩, 13), (⟨"PledgeWindow$Shop", "take", "(LPledgeWindow$Shop;)V"⟩, 6), (⟨"PledgeWindow$Past", "take", "(LPledgeWindow$Past;)V"⟩, 2), (⟨"PledgeWindow$Hints", "take", "(LPledgeWindow$Hints;)V"⟩, 3), (⟨"PledgeWindow", "countOf", "(I)I"⟩, 13), (⟨"PledgeWindow$Town", "keptCount", "()I"⟩, 12), (⟨"PledgeWindow$Town", "digestOn", "(J)J"⟩, 12), (⟨"PledgeWindow$Hints", "digestOn", "(JI)J"⟩, 3)]
theorem lw_r4 : ∀ q ∈ lw_privs_4, lw_okq q := List.forall_mem_cons.mpr ⟨lw_p48, List.forall_mem_cons.mpr ⟨lw_p49, List.forall_mem_cons.mpr ⟨lw_p50, List.forall_mem_cons.mpr ⟨lw_p51, List.forall_mem_cons.mpr ⟨lw_p52, List.forall_mem_cons.mpr ⟨lw_p53, List.forall_mem_cons.mpr ⟨lw_p54, List.forall_mem_cons.mpr ⟨lw_p55, List.forall_mem_cons.mpr ⟨lw_p56, List.forall_mem_cons.mpr ⟨lw_p57, List.forall_mem_cons.mpr ⟨lw_p58, List.forall_mem_cons.mpr ⟨lw_p59, List.forall_mem_cons.mpr ⟨lw_p60, List.forall_mem_cons.mpr ⟨lw_p61, List.forall_mem_cons.mpr ⟨lw_p62, List.forall_mem_cons.mpr ⟨lw_p63, fun _ h => absurd h List.not_mem_nil⟩⟩⟩⟩⟩⟩⟩⟩⟩⟩⟩⟩⟩⟩⟩⟩
theorem lw_p64 : lw_okq (⟨"PledgeWindowModel", "many", "()I"⟩, 18) := ⟨⟨by decide +kernel, by decide +kernel⟩, List.mem_of_getElem? (i := 827) (by decide +kernel), List.mem_of_getElem? (i := 896) (by decide +kernel), List.mem_of_getElem? (i := 897) (by decide +kernel)⟩
theorem lw_p65 : lw_okq (⟨"PledgeWindowModel", "bad", "(I)I"⟩, 18) := ⟨⟨by decide +kernel, by decide +kernel⟩, List.mem_of_getElem? (i := 827) (by decide +kernel), List.mem_of_getElem? (i := 915) (by decide +kernel), List.mem_of_getElem? (i := 916) (by decide +kernel)⟩
theorem lw_p66 : lw_okq (⟨"PledgeWindowModel", "full", "()I"⟩, 18) := ⟨⟨by decide +kernel, by decide +kernel⟩, List.mem_of_getElem? (i := 827) (by decide +kernel), List.mem_of_getElem? (i := 919) (by decide +kernel), List.mem_of_getElem? (i := 920) (by decide +kernel)⟩
theorem lw_p67 : lw_okq (⟨"PledgeWindowModel", "save", "()V"⟩, 18) := ⟨⟨by decide +kernel, by decide +kernel⟩, List.mem_of_getElem? (i := 827) (by decide +kernel), List.mem_of_getElem? (i := 940) (by decide +kernel), List.mem_of_getElem? (i := 941) (by decide +kernel)⟩
theorem lw_p68 : lw_okq (⟨"PledgeWindowModel", "isBuyer", "(I)Z"⟩, 18) := ⟨⟨by decide +kernel, by decide +kernel⟩, List.mem_of_getElem? (i := 827) (by decide +kernel), List.mem_of_getElem? (i := 957) (by decide +kernel), List.mem_of_getElem? (i := 958) (by decide +kernel)⟩
theorem lw_p69 : lw_okq (⟨"PledgeWindowModel", "isPromise", "(I)Z"⟩, 18) := ⟨⟨by decide +kernel, by decide +kernel⟩, List.mem_of_getElem? (i := 827) (by decide +kernel), List.mem_of_getElem? (i := 961) (by decide +kernel), List.mem_of_getElem? (i := 962) (by decide +kernel)⟩
theorem lw_p70 : lw_okq (⟨"PledgeWindowModel", "no", "()I"⟩, 18) := ⟨⟨by decide +kernel, by decide +kernel⟩, List.mem_of_getElem? (i := 827) (by decide +kernel), List.mem_of_getElem? (i := 977) (by decide +kernel), List.mem_of_getElem? (i := 978) (by decide +kernel)⟩
theorem lw_p71 : lw_okq (⟨"PledgeWindowModel", "isHearer", "(I)Z"⟩, 18) := ⟨⟨by decide +kernel, by decide +kernel⟩, List.mem_of_getElem? (i := 827) (by decide +kernel), List.mem_of_getElem? (i := 988) (by decide +kernel), List.mem_of_getElem? (i := 989) (by decide +kernel)⟩
theorem lw_p72 : lw_okq (⟨"PledgeWindowModel", "toldOf", "(II)I"⟩, 18) := ⟨⟨by decide +kernel, by decide +kernel⟩, List.mem_of_getElem? (i := 827) (by decide +kernel), List.mem_of_getElem? (i := 1012) (by decide +kernel), List.mem_of_getElem? (i := 1013) (by decide +kernel)⟩
theorem lw_p73 : lw_okq (⟨"PledgeWindowModel", "allIn", "(I)I"⟩, 18) := ⟨⟨by decide +kernel, by decide +kernel⟩, List.mem_of_getElem? (i := 827) (by decide +kernel), List.mem_of_getElem? (i := 1021) (by decide +kernel), List.mem_of_getElem? (i := 1022) (by decide +kernel)⟩
theorem lw_p74 : lw_okq (⟨"PledgeWindowModel", "goodBehind", "(II)I"⟩, 18) := ⟨⟨by decide +kernel, by decide +kernel⟩, List.mem_of_getElem? (i := 827) (by decide +kernel), List.mem_of_getElem? (i := 1034) (by decide +kernel), List.mem_of_getElem? (i := 1035) (by decide +kernel)⟩
theorem lw_p75 : lw_okq (⟨"PledgeWindowModel", "waiting", "()I"⟩, 18) := ⟨⟨by decide +kernel, by decide +kernel⟩, List.mem_of_getElem? (i := 827) (by decide +kernel), List.mem_of_getElem? (i := 1051) (by decide +kernel), List.mem_of_getElem? (i := 1052) (by decide +kernel)⟩
theorem lw_p76 : lw_okq (⟨"PledgeWindowModel", "codes", "()I"⟩, 18) := ⟨⟨by decide +kernel, by decide +kernel⟩, List.mem_of_getElem? (i := 827) (by decide +kernel), List.mem_of_getElem? (i := 1059) (by decide +kernel), List.mem_of_getElem? (i := 1060) (by decide +kernel)⟩
theorem lw_p77 : lw_okq (⟨"PledgeWindowModel", "means", "(I)Z"⟩, 18) := ⟨⟨by decide +kernel, by decide +kernel⟩, List.mem_of_getElem? (i := 827) (by decide +kernel), List.mem_of_getElem? (i := 1063) (by decide +kernel), List.mem_of_getElem? (i := 1064) (by decide +kernel)⟩
theorem lw_p78 : lw_okq (⟨"PledgeWindowModel", "seenOnes", "()I"⟩, 18) := ⟨⟨by decide +kernel, by decide +kernel⟩, List.mem_of_getElem? (i := 827) (by decide +kernel), List.mem_of_getElem? (i := 1087) (by decide +kernel), List.mem_of_getElem? (i := 1088) (by decide +kernel)⟩
theorem lw_p79 : lw_okq (⟨"PledgeWindowModel", "mostAlike", "(I)I"⟩, 18) := ⟨⟨by decide +kernel, by decide +kernel⟩, List.mem_of_getElem? (i := 827) (by decide +kernel), List.mem_of_getElem? (i := 1095) (by decide +kernel), List.mem_of_getElem? (i := 1096) (by decide +kernel)⟩
def lw_privs_5 : List (MethodName × Nat) := [(⟨"PledgeWindowModel", "many", "()I"⟩, 18), (⟨"PledgeWindowModel", "bad", "(I)I"⟩, 18), (⟨"PledgeWindowModel", "full", "()I"⟩, 18), (⟨"PledgeWindowModel", "save", "()V"⟩, 18), (⟨"PledgeWindowModel", "isBuyer", "(I)Z"⟩, 18), (⟨"PledgeWindowModel", "isPromise", "(I)Z"⟩, 18), (⟨"PledgeWindowModel", "no", "()I"⟩, 18), (⟨"PledgeWindowModel", "isHearer", "(I)Z"⟩, 18), (⟨"PledgeWindowModel", "toldOf", "(II)I"⟩, 18), (⟨"PledgeWindowModel", "allIn", "(I)I"⟩, 18), (⟨"PledgeWindowModel", "goodBehind", "(II)I"⟩, 18), (⟨"PledgeWindowModel", "waiting", "()I"⟩, 18), (⟨"PledgeWindowModel", "codes", "()I"⟩, 18), (⟨"PledgeWindowModel", "means", "(I)Z"⟩, 18), (⟨"PledgeWindowModel", "seenOnes", "()I"⟩, 18), (⟨"PledgeWindowModel", "mostAlike", "(I)I"⟩, 18)]
theorem lw_r5 : ∀ q ∈ lw_privs_5, lw_okq q := List.forall_mem_cons.mpr ⟨lw_p64, List.forall_mem_cons.mpr ⟨lw_p65, List.forall_mem_cons.mpr ⟨lw_p66, List.forall_mem_cons.mpr ⟨lw_p67, List.forall_mem_cons.mpr ⟨lw_p68, List.forall_mem_cons.mpr ⟨lw_p69, List.forall_mem_cons.mpr ⟨lw_p70, List.forall_mem_cons.mpr ⟨lw_p71, List.forall_mem_cons.mpr ⟨lw_p72, List.forall_mem_cons.mpr ⟨lw_p73, List.forall_mem_cons.mpr ⟨lw_p74, List.forall_mem_cons.mpr ⟨lw_p75, List.forall_mem_cons.mpr ⟨lw_p76, List.forall_mem_cons.mpr ⟨lw_p77, List.forall_mem_cons.mpr ⟨lw_p78, List.forall_mem_cons.mpr ⟨lw_p79, fun _ h => absurd h List.not_mem_nil⟩⟩⟩⟩⟩⟩⟩⟩⟩⟩⟩⟩⟩⟩⟩⟩
theorem lw_p80 : lw_okq (⟨"PledgeWindowModel", "layFour", "(IIIII)V"⟩, 18) := ⟨⟨by decide +kernel, by decide +kernel⟩, List.mem_of_getElem? (i := 827) (by decide +kernel), List.mem_of_getElem? (i := 1103) (by decide +kernel), List.mem_of_getElem? (i := 1104) (by decide +kernel)⟩
theorem lw_p81 : lw_okq (⟨"PledgeWindowModel", "kindsOfPromise", "(I)I"⟩, 18) := ⟨⟨by decide +kernel, by decide +kernel⟩, List.mem_of_getElem? (i := 827) (by decide +kernel), List.mem_of_getElem? (i := 1120) (by decide +kernel), List.mem_of_getElem? (i := 1121) (by decide +kernel)⟩
theorem lw_p82 : lw_okq (⟨"PledgeWindowModel", "kindsOfHearer", "(I)I"⟩, 18) := ⟨⟨by decide +kernel, by decide +kernel⟩, List.mem_of_getElem? (i := 827) (by decide +kernel), List.mem_of_getElem? (i := 1132) (by decide +kernel), List.mem_of_getElem? (i := 1133) (by decide +kernel)⟩
theorem lw_p83 : lw_okq (⟨"PledgeWindowModel", "fraction", "(JJ)V"⟩, 18) := ⟨⟨by decide +kernel, by decide +kernel⟩, List.mem_of_getElem? (i := 827) (by decide +kernel), List.mem_of_getElem? (i := 1155) (by decide +kernel), List.mem_of_getElem? (i := 1156) (by decide +kernel)⟩
theorem lw_p84 : lw_okq (⟨"PledgeWindowModel", "lookAt", "(I)V"⟩, 18) := ⟨⟨by decide +kernel, by decide +kernel⟩, List.mem_of_getElem? (i := 827) (by decide +kernel), List.mem_of_getElem? (i := 1184) (by decide +kernel), List.mem_of_getElem? (i := 1185) (by decide +kernel)⟩
theorem lw_p85 : lw_okq (⟨"PledgeWindowModel", "spells", "(IIIIIII)Z"⟩, 18) := ⟨⟨by decide +kernel, by decide +kernel⟩, List.mem_of_getElem? (i := 827) (by decide +kernel), List.mem_of_getElem? (i := 1198) (by decide +kernel), List.mem_of_getElem? (i := 1199) (by decide +kernel)⟩
theorem lw_p86 : lw_okq (⟨"PledgeWindowModel", "goBehind", "()V"⟩, 18) := ⟨⟨by decide +kernel, by decide +kernel⟩, List.mem_of_getElem? (i := 827) (by decide +kernel), List.mem_of_getElem? (i := 1202) (by decide +kernel), List.mem_of_getElem? (i := 1203) (by decide +kernel)⟩
theorem lw_p87 : lw_okq (⟨"PledgeWindowModel", "takesItem", "()Z"⟩, 18) := ⟨⟨by decide +kernel, by decide +kernel⟩, List.mem_of_getElem? (i := 827) (by decide +kernel), List.mem_of_getElem? (i := 1206) (by decide +kernel), List.mem_of_getElem? (i := 1207) (by decide +kernel)⟩
theorem lw_p88 : lw_okq (⟨"PledgeWindowModel", "spellsPromise", "()Z"⟩, 18) := ⟨⟨by decide +kernel, by decide +kernel⟩, List.mem_of_getElem? (i := 827) (by decide +kernel), List.mem_of_getElem? (i := 1210) (by decide +kernel), List.mem_of_getElem? (i := 1211) (by decide +kernel)⟩
theorem lw_p89 : lw_okq (⟨"PledgeWindowModel", "takesPromise", "()Z"⟩, 18) := ⟨⟨by decide +kernel, by decide +kernel⟩, List.mem_of_getElem? (i := 827) (by decide +kernel), List.mem_of_getElem? (i := 1214) (by decide +kernel), List.mem_of_getElem? (i := 1215) (by decide +kernel)⟩
theorem lw_p90 : lw_okq (⟨"PledgeWindowModel", "takes", "(III)Z"⟩, 18) := ⟨⟨by decide +kernel, by decide +kernel⟩, List.mem_of_getElem? (i := 827) (by decide +kernel), List.mem_of_getElem? (i := 1218) (by decide +kernel), List.mem_of_getElem? (i := 1219) (by decide +kernel)⟩
theorem lw_p91 : lw_okq (⟨"PledgeWindowModel", "takesHearer", "()Z"⟩, 18) := ⟨⟨by decide +kernel, by decide +kernel⟩, List.mem_of_getElem? (i := 827) (by decide +kernel), List.mem_of_getElem? (i := 1222) (by decide +kernel), List.mem_of_getElem? (i := 1223) (by decide +kernel)⟩
theorem lw_p92 : lw_okq (⟨"PledgeWindowModel", "takesBuyer", "()Z"⟩, 18) := ⟨⟨by decide +kernel, by decide +kernel⟩, List.mem_of_getElem? (i := 827) (by decide +kernel), List.mem_of_getElem? (i := 1226) (by decide +kernel), List.mem_of_getElem? (i := 1227) (by decide +kernel)⟩
theorem lw_p93 : lw_okq (⟨"PledgeWindowModel", "takesBuy", "()Z"⟩, 18) := ⟨⟨by decide +kernel, by decide +kernel⟩, List.mem_of_getElem? (i := 827) (by decide +kernel), List.mem_of_getElem? (i := 1230) (by decide +kernel), List.mem_of_getElem? (i := 1231) (by decide +kernel)⟩
theorem lw_p94 : lw_okq (⟨"PledgeWindowModel", "takesKeep", "()Z"⟩, 18) := ⟨⟨by decide +kernel, by decide +kernel⟩, List.mem_of_getElem? (i := 827) (by decide +kernel), List.mem_of_getElem? (i := 1234) (by decide +kernel), List.mem_of_getElem? (i := 1235) (by decide +kernel)⟩
theorem lw_p95 : lw_okq (⟨"PledgeWindowModel", "takesDays", "()Z"⟩, 18) := ⟨⟨by decide +kernel, by decide +kernel⟩, List.mem_of_getElem? (i := 827) (by decide +kernel), List.mem_of_getElem? (i := 1238) (by decide +kernel), List.mem_of_getElem? (i := 1239) (by decide +kernel)⟩
def lw_privs_6 : List (MethodName × Nat) := [(⟨"PledgeWindowModel", "layFour", "(IIIII)V"⟩, 18), (⟨"PledgeWindowModel", "kindsOfPromise", "(I)I"⟩, 18), (⟨"PledgeWindowModel", "kindsOfHearer", "(I)I"⟩, 18), (⟨"PledgeWindowModel", "fraction", "(JJ)V"⟩, 18), (⟨"PledgeWindowModel", "lookAt", "(I)V"⟩, 18), (⟨"PledgeWindowModel", "spells", "(IIIIIII)Z"⟩, 18), (⟨"PledgeWindowModel", "goBehind", "()V"⟩, 18), (⟨"PledgeWindowModel", "takesItem", "()Z"⟩, 18), (⟨"PledgeWindowModel", "spellsPromise", "()Z"⟩, 18), (⟨"PledgeWindowModel", "takesPromise", "()Z"⟩, 18), (⟨"PledgeWindowModel", "takes", "(III)Z"⟩, 18), (⟨"PledgeWindowModel", "takesHearer", "()Z"⟩, 18), (⟨"PledgeWindowModel", "takesBuyer", "()Z"⟩, 18), (⟨"PledgeWindowModel", "takesBuy", "()Z"⟩, 18), (⟨"PledgeWindowModel", "takesKeep", "()Z"⟩, 18), (⟨"PledgeWindowModel", "takesDays", "()Z"⟩, 18)]
theorem lw_r6 : ∀ q ∈ lw_privs_6, lw_okq q := List.forall_mem_cons.mpr ⟨lw_p80, List.forall_mem_cons.mpr ⟨lw_p81, List.forall_mem_cons.mpr ⟨lw_p82, List.forall_mem_cons.mpr ⟨lw_p83, List.forall_mem_cons.mpr ⟨lw_p84, List.forall_mem_cons.mpr ⟨lw_p85, List.forall_mem_cons.mpr ⟨lw_p86, List.forall_mem_cons.mpr ⟨lw_p87, List.forall_mem_cons.mpr ⟨lw_p88, List.forall_mem_cons.mpr ⟨lw_p89, List.forall_mem_cons.mpr ⟨lw_p90, List.forall_mem_cons.mpr ⟨lw_p91, List.forall_mem_cons.mpr ⟨lw_p92, List.forall_mem_cons.mpr ⟨lw_p93, List.forall_mem_cons.mpr ⟨lw_p94, List.forall_mem_cons.mpr ⟨lw_p95, fun _ h => absurd h List.not_mem_nil⟩⟩⟩⟩⟩⟩⟩⟩⟩⟩⟩⟩⟩⟩⟩⟩
theorem lw_p96 : lw_okq (⟨"PledgeWindowModel", "counted", "(I)I"⟩, 18) := ⟨⟨by decide +kernel, by decide +kernel⟩, List.mem_of_getElem? (i := 827) (by decide +kernel), List.mem_of_getElem? (i := 1263) (by decide +kernel), List.mem_of_getElem? (i := 1264) (by decide +kernel)⟩
theorem lw_p97 : lw_okq (⟨"PledgeWindowModel", "sums", "(JII)J"⟩, 18) := ⟨⟨by decide +kernel, by decide +kernel⟩, List.mem_of_getElem? (i := 827) (by decide +kernel), List.mem_of_getElem? (i := 1273) (by decide +kernel), List.mem_of_getElem? (i := 1274) (by decide +kernel)⟩
def lw_privs_7 : List (MethodName × Nat) := [(⟨"PledgeWindowModel", "counted", "(I)I"⟩, 18), (⟨"PledgeWindowModel", "sums", "(JII)J"⟩, 18)]
theorem lw_r7 : ∀ q ∈ lw_privs_7, lw_okq q := List.forall_mem_cons.mpr ⟨lw_p96, List.forall_mem_cons.mpr ⟨lw_p97, fun _ h => absurd h List.not_mem_nil⟩⟩
def lw_privs : List (MethodName × Nat) := lw_privs_1 ++ (lw_privs_2 ++ (lw_privs_3 ++ (lw_privs_4 ++ (lw_privs_5 ++ (lw_privs_6 ++ (lw_privs_7))))))
def lw_tbl : List Cond := k2_sels lw_privs ++ tables_1
theorem lw_privs_ok : ∀ q ∈ lw_privs, lw_okq q := by
  show ∀ q ∈ lw_privs_1 ++ (lw_privs_2 ++ (lw_privs_3 ++ (lw_privs_4 ++ (lw_privs_5 ++ (lw_privs_6 ++ (lw_privs_7)))))), lw_okq q
  exact List.forall_mem_append.mpr ⟨lw_r1, List.forall_mem_append.mpr ⟨lw_r2, List.forall_mem_append.mpr ⟨lw_r3, List.forall_mem_append.mpr ⟨lw_r4, List.forall_mem_append.mpr ⟨lw_r5, List.forall_mem_append.mpr ⟨lw_r6, lw_r7⟩⟩⟩⟩⟩⟩
def RX0 : String := "PledgeWindow$Hints"
def TX0 : u_T := fun k => match k with
  | 0 => ("PledgeWindow$Hints", "most", "I", true)
  | 1 => ("PledgeWindow$Hints", "cells", "[I", true)
  | _ => ("PledgeWindow$Hints", "size", "I", false)
def tyX0 : Nat → FieldType := fun k => match k with
  | 0 => .int
  | 1 => .array .int
  | _ => .int
abbrev wsX00 : List Cond := u_ws RX0 TX0 3
theorem nmX0 : ∀ a, a < 3 → ∀ b, b < 3 → a ≠ b → (TX0 a).2.1 ≠ (TX0 b).2.1 := by decide +kernel
theorem tyX0_ok : ∀ k, k < 3 → parseFieldDescriptor (TX0 k).2.2.1 = some (tyX0 k) := by decide +kernel
abbrev cX0_init : ByteArray := prog_2_method_1_code
def yX0_init : MethodName := ⟨RX0, "<init>", "(I)V"⟩
abbrev cX0_take : ByteArray := prog_2_method_2_code
def yX0_take : MethodName := ⟨RX0, "take", "(LPledgeWindow$Hints;)V"⟩
abbrev cX0_isFull : ByteArray := prog_2_method_3_code
def yX0_isFull : MethodName := ⟨RX0, "isFull", "()Z"⟩
abbrev cX0_add : ByteArray := prog_2_method_4_code
def yX0_add : MethodName := ⟨RX0, "add", "(IIII)I"⟩
abbrev cX0_cell : ByteArray := prog_2_method_5_code
def yX0_cell : MethodName := ⟨RX0, "cell", "(II)I"⟩
abbrev cX0_digestOn : ByteArray := prog_2_method_6_code
def yX0_digestOn : MethodName := ⟨RX0, "digestOn", "(JI)J"⟩
def RX1 : String := "PledgeWindow$Past"
def TX1 : u_T := fun k => match k with
  | 0 => ("PledgeWindow$Past", "cells", "[I", true)
  | _ => ("PledgeWindow$Past", "depth", "I", false)
def tyX1 : Nat → FieldType := fun k => match k with
  | 0 => .array .int
  | _ => .int
abbrev wsX10 : List Cond := u_ws RX1 TX1 2
theorem nmX1 : ∀ a, a < 2 → ∀ b, b < 2 → a ≠ b → (TX1 a).2.1 ≠ (TX1 b).2.1 := by decide +kernel
theorem tyX1_ok : ∀ k, k < 2 → parseFieldDescriptor (TX1 k).2.2.1 = some (tyX1 k) := by decide +kernel
abbrev cX1_init : ByteArray := prog_3_method_1_code
def yX1_init : MethodName := ⟨RX1, "<init>", "()V"⟩
abbrev cX1_take : ByteArray := prog_3_method_2_code
def yX1_take : MethodName := ⟨RX1, "take", "(LPledgeWindow$Past;)V"⟩
abbrev cX1_save : ByteArray := prog_3_method_3_code
def yX1_save : MethodName := ⟨RX1, "save", "(LPledgeWindow$Town;)V"⟩
abbrev cX1_restore : ByteArray := prog_3_method_4_code
def yX1_restore : MethodName := ⟨RX1, "restore", "(LPledgeWindow$Town;)V"⟩
def RX2 : String := "PledgeWindow$Reader"
def TX2 : u_T := fun k => match k with
  | 0 => ("PledgeWindow$Reader", "text", "[I", true)
  | 1 => ("PledgeWindow$Reader", "draft", "LPledgeWindow$Town;", true)
  | 2 => ("PledgeWindow$Reader", "length", "I", false)
  | 3 => ("PledgeWindow$Reader", "fault", "I", false)
  | 4 => ("PledgeWindow$Reader", "items", "I", false)
  | 5 => ("PledgeWindow$Reader", "token", "I", false)
  | 6 => ("PledgeWindow$Reader", "start", "I", false)
  | 7 => ("PledgeWindow$Reader", "next", "I", false)
  | _ => ("PledgeWindow$Reader", "value", "I", false)
def tyX2 : Nat → FieldType := fun k => match k with
  | 0 => .array .int
  | 1 => .object "PledgeWindow$Town"
  | 2 => .int
  | 3 => .int
  | 4 => .int
  | 5 => .int
  | 6 => .int
  | 7 => .int
  | _ => .int
abbrev wsX20 : List Cond := u_ws RX2 TX2 9
theorem nmX2 : ∀ a, a < 9 → ∀ b, b < 9 → a ≠ b → (TX2 a).2.1 ≠ (TX2 b).2.1 := by decide +kernel
theorem tyX2_ok : ∀ k, k < 9 → parseFieldDescriptor (TX2 k).2.2.1 = some (tyX2 k) := by decide +kernel
abbrev cX2_init : ByteArray := prog_4_method_1_code
def yX2_init : MethodName := ⟨RX2, "<init>", "()V"⟩
abbrev cX2_begin : ByteArray := prog_4_method_2_code
def yX2_begin : MethodName := ⟨RX2, "begin", "()V"⟩
abbrev cX2_reachesItem : ByteArray := prog_4_method_3_code
def yX2_reachesItem : MethodName := ⟨RX2, "reachesItem", "()Z"⟩
abbrev cX2_readItem : ByteArray := prog_4_method_4_code
def yX2_readItem : MethodName := ⟨RX2, "readItem", "()V"⟩
abbrev cX2_mayStand : ByteArray := prog_4_method_5_code
def yX2_mayStand : MethodName := ⟨RX2, "mayStand", "(I)Z"⟩
abbrev cX2_readPromise : ByteArray := prog_4_method_6_code
def yX2_readPromise : MethodName := ⟨RX2, "readPromise", "()V"⟩
abbrev cX2_readHearer : ByteArray := prog_4_method_7_code
def yX2_readHearer : MethodName := ⟨RX2, "readHearer", "()V"⟩
abbrev cX2_readBuyer : ByteArray := prog_4_method_8_code
def yX2_readBuyer : MethodName := ⟨RX2, "readBuyer", "()V"⟩
abbrev cX2_readBuy : ByteArray := prog_4_method_9_code
def yX2_readBuy : MethodName := ⟨RX2, "readBuy", "()V"⟩
abbrev cX2_readKeep : ByteArray := prog_4_method_10_code
def yX2_readKeep : MethodName := ⟨RX2, "readKeep", "()V"⟩
abbrev cX2_readDays : ByteArray := prog_4_method_11_code
def yX2_readDays : MethodName := ⟨RX2, "readDays", "()V"⟩
abbrev cX2_readNumber : ByteArray := prog_4_method_12_code
def yX2_readNumber : MethodName := ⟨RX2, "readNumber", "(II)I"⟩
abbrev cX2_readStop : ByteArray := prog_4_method_13_code
def yX2_readStop : MethodName := ⟨RX2, "readStop", "()V"⟩
abbrev cX2_fail : ByteArray := prog_4_method_14_code
def yX2_fail : MethodName := ⟨RX2, "fail", "()V"⟩
abbrev cX2_advance : ByteArray := prog_4_method_15_code
def yX2_advance : MethodName := ⟨RX2, "advance", "()V"⟩
abbrev cX2_endOfRun : ByteArray := prog_4_method_16_code
def yX2_endOfRun : MethodName := ⟨RX2, "endOfRun", "(III)I"⟩
abbrev cX2_numberAtHand : ByteArray := prog_4_method_17_code
def yX2_numberAtHand : MethodName := ⟨RX2, "numberAtHand", "()I"⟩
abbrev cX2_wordAtHand : ByteArray := prog_4_method_18_code
def yX2_wordAtHand : MethodName := ⟨RX2, "wordAtHand", "()I"⟩
abbrev cX2_spelling : ByteArray := prog_4_method_19_code
def yX2_spelling : MethodName := ⟨RX2, "spelling", "(I)Ljava/lang/String;"⟩
abbrev cX2_isAtHand : ByteArray := prog_4_method_20_code
def yX2_isAtHand : MethodName := ⟨RX2, "isAtHand", "(Ljava/lang/String;)Z"⟩
def RX3 : String := "PledgeWindow$Shop"
def TX3 : u_T := fun k => match k with
  | 0 => ("PledgeWindow$Shop", "town", "LPledgeWindow$Town;", true)
  | 1 => ("PledgeWindow$Shop", "past", "LPledgeWindow$Past;", true)
  | 2 => ("PledgeWindow$Shop", "seen", "LPledgeWindow$Hints;", true)
  | 3 => ("PledgeWindow$Shop", "notes", "LPledgeWindow$Hints;", true)
  | 4 => ("PledgeWindow$Shop", "marks", "LPledgeWindow$Hints;", true)
  | _ => ("PledgeWindow$Shop", "there", "Z", false)
def tyX3 : Nat → FieldType := fun k => match k with
  | 0 => .object "PledgeWindow$Town"
  | 1 => .object "PledgeWindow$Past"
  | 2 => .object "PledgeWindow$Hints"
  | 3 => .object "PledgeWindow$Hints"
  | 4 => .object "PledgeWindow$Hints"
  | _ => .boolean
abbrev wsX30 : List Cond := u_ws RX3 TX3 6
theorem nmX3 : ∀ a, a < 6 → ∀ b, b < 6 → a ≠ b → (TX3 a).2.1 ≠ (TX3 b).2.1 := by decide +kernel
theorem tyX3_ok : ∀ k, k < 6 → parseFieldDescriptor (TX3 k).2.2.1 = some (tyX3 k) := by decide +kernel
abbrev cX3_init : ByteArray := prog_5_method_1_code
def yX3_init : MethodName := ⟨RX3, "<init>", "()V"⟩
abbrev cX3_empty : ByteArray := prog_5_method_2_code
def yX3_empty : MethodName := ⟨RX3, "empty", "()V"⟩
abbrev cX3_take : ByteArray := prog_5_method_3_code
def yX3_take : MethodName := ⟨RX3, "take", "(LPledgeWindow$Shop;)V"⟩
abbrev cX3_hintsOf : ByteArray := prog_5_method_4_code
def yX3_hintsOf : MethodName := ⟨RX3, "hintsOf", "(I)LPledgeWindow$Hints;"⟩
def RX4 : String := "PledgeWindow$Town"
def TX4 : u_T := fun k => match k with
  | 0 => ("PledgeWindow$Town", "kinds", "[I", true)
  | 1 => ("PledgeWindow$Town", "worths", "[I", true)
  | 2 => ("PledgeWindow$Town", "lain", "[I", true)
  | 3 => ("PledgeWindow$Town", "places", "[I", true)
  | 4 => ("PledgeWindow$Town", "hearerKinds", "[I", true)
  | 5 => ("PledgeWindow$Town", "wants", "[I", true)
  | 6 => ("PledgeWindow$Town", "purses", "[I", true)
  | 7 => ("PledgeWindow$Town", "promises", "I", false)
  | 8 => ("PledgeWindow$Town", "hearers", "I", false)
  | 9 => ("PledgeWindow$Town", "buyers", "I", false)
  | 10 => ("PledgeWindow$Town", "day", "I", false)
  | _ => ("PledgeWindow$Town", "allJoy", "I", false)
def tyX4 : Nat → FieldType := fun k => match k with
  | 0 => .array .int
  | 1 => .array .int
  | 2 => .array .int
  | 3 => .array .int
  | 4 => .array .int
  | 5 => .array .int
  | 6 => .array .int
  | 7 => .int
  | 8 => .int
  | 9 => .int
  | 10 => .int
  | _ => .int
abbrev wsX40 : List Cond := u_ws RX4 TX4 12
theorem nmX4 : ∀ a, a < 12 → ∀ b, b < 12 → a ≠ b → (TX4 a).2.1 ≠ (TX4 b).2.1 := by decide +kernel
theorem tyX4_ok : ∀ k, k < 12 → parseFieldDescriptor (TX4 k).2.2.1 = some (tyX4 k) := by decide +kernel
abbrev cX4_init : ByteArray := prog_6_method_1_code
def yX4_init : MethodName := ⟨RX4, "<init>", "()V"⟩
abbrev cX4_empty : ByteArray := prog_6_method_2_code
def yX4_empty : MethodName := ⟨RX4, "empty", "()V"⟩
abbrev cX4_take : ByteArray := prog_6_method_3_code
def yX4_take : MethodName := ⟨RX4, "take", "(LPledgeWindow$Town;)V"⟩
abbrev cX4_addPromise : ByteArray := prog_6_method_4_code
def yX4_addPromise : MethodName := ⟨RX4, "addPromise", "(II)I"⟩
abbrev cX4_addHearer : ByteArray := prog_6_method_5_code
def yX4_addHearer : MethodName := ⟨RX4, "addHearer", "(II)I"⟩
abbrev cX4_addBuyer : ByteArray := prog_6_method_6_code
def yX4_addBuyer : MethodName := ⟨RX4, "addBuyer", "(I)I"⟩
abbrev cX4_hasPromise : ByteArray := prog_6_method_7_code
def yX4_hasPromise : MethodName := ⟨RX4, "hasPromise", "(I)Z"⟩
abbrev cX4_hasHearer : ByteArray := prog_6_method_8_code
def yX4_hasHearer : MethodName := ⟨RX4, "hasHearer", "(I)Z"⟩
abbrev cX4_hasBuyer : ByteArray := prog_6_method_9_code
def yX4_hasBuyer : MethodName := ⟨RX4, "hasBuyer", "(I)Z"⟩
abbrev cX4_isInWindow : ByteArray := prog_6_method_10_code
def yX4_isInWindow : MethodName := ⟨RX4, "isInWindow", "(I)Z"⟩
abbrev cX4_isHeld : ByteArray := prog_6_method_11_code
def yX4_isHeld : MethodName := ⟨RX4, "isHeld", "(I)Z"⟩
abbrev cX4_goodBehind : ByteArray := prog_6_method_12_code
def yX4_goodBehind : MethodName := ⟨RX4, "goodBehind", "(II)I"⟩
abbrev cX4_priceOf : ByteArray := prog_6_method_13_code
def yX4_priceOf : MethodName := ⟨RX4, "priceOf", "(I)I"⟩
abbrev cX4_joyTo : ByteArray := prog_6_method_14_code
def yX4_joyTo : MethodName := ⟨RX4, "joyTo", "(II)I"⟩
abbrev cX4_passDays : ByteArray := prog_6_method_15_code
def yX4_passDays : MethodName := ⟨RX4, "passDays", "(I)V"⟩
abbrev cX4_canSell : ByteArray := prog_6_method_16_code
def yX4_canSell : MethodName := ⟨RX4, "canSell", "(II)Z"⟩
abbrev cX4_sell : ByteArray := prog_6_method_17_code
def yX4_sell : MethodName := ⟨RX4, "sell", "(II)V"⟩
abbrev cX4_give : ByteArray := prog_6_method_18_code
def yX4_give : MethodName := ⟨RX4, "give", "(II)I"⟩
abbrev cX4_bitsAt : ByteArray := prog_6_method_19_code
def yX4_bitsAt : MethodName := ⟨RX4, "bitsAt", "(I)I"⟩
abbrev cX4_keptCount : ByteArray := prog_6_method_20_code
def yX4_keptCount : MethodName := ⟨RX4, "keptCount", "()I"⟩
abbrev cX4_waitingBits : ByteArray := prog_6_method_21_code
def yX4_waitingBits : MethodName := ⟨RX4, "waitingBits", "()I"⟩
abbrev cX4_digestOn : ByteArray := prog_6_method_22_code
def yX4_digestOn : MethodName := ⟨RX4, "digestOn", "(J)J"⟩
def RX5 : String := "PledgeWindow"
def TX5 : u_T := fun k => match k with
  | 0 => ("PledgeWindow", "now", "LPledgeWindow$Shop;", true)
  | 1 => ("PledgeWindow", "imageZero", "LPledgeWindow$Shop;", true)
  | 2 => ("PledgeWindow", "imageOne", "LPledgeWindow$Shop;", true)
  | 3 => ("PledgeWindow", "reader", "LPledgeWindow$Reader;", true)
  | 4 => ("PledgeWindow", "trial", "LPledgeWindow$Town;", true)
  | 5 => ("PledgeWindow", "gains", "[I", true)
  | 6 => ("PledgeWindow", "prices", "[I", true)
  | 7 => ("PledgeWindow", "answers", "[I", true)
  | 8 => ("PledgeWindow", "above", "J", false)
  | 9 => ("PledgeWindow", "below", "J", false)
  | 10 => ("PledgeWindow", "bads", "I", false)
  | 11 => ("PledgeWindow", "noes", "I", false)
  | _ => ("PledgeWindow", "fulls", "I", false)
def tyX5 : Nat → FieldType := fun k => match k with
  | 0 => .object "PledgeWindow$Shop"
  | 1 => .object "PledgeWindow$Shop"
  | 2 => .object "PledgeWindow$Shop"
  | 3 => .object "PledgeWindow$Reader"
  | 4 => .object "PledgeWindow$Town"
  | 5 => .array .int
  | 6 => .array .int
  | 7 => .array .int
  | 8 => .long
  | 9 => .long
  | 10 => .int
  | 11 => .int
  | _ => .int
abbrev wsX50 : List Cond := u_ws RX5 TX5 13
theorem nmX5 : ∀ a, a < 13 → ∀ b, b < 13 → a ≠ b → (TX5 a).2.1 ≠ (TX5 b).2.1 := by decide +kernel
theorem tyX5_ok : ∀ k, k < 13 → parseFieldDescriptor (TX5 k).2.2.1 = some (tyX5 k) := by decide +kernel
abbrev cX5_init : ByteArray := prog_1_method_1_code
def yX5_init : MethodName := ⟨RX5, "<init>", "()V"⟩
abbrev cX5_at : ByteArray := prog_1_method_2_code
def yX5_at : MethodName := ⟨RX5, "at", "([II)I"⟩
abbrev cX5_put : ByteArray := prog_1_method_3_code
def yX5_put : MethodName := ⟨RX5, "put", "([III)V"⟩
abbrev cX5_copyCells : ByteArray := prog_1_method_4_code
def yX5_copyCells : MethodName := ⟨RX5, "copyCells", "([II[III)V"⟩
abbrev cX5_copyRow : ByteArray := prog_1_method_5_code
def yX5_copyRow : MethodName := ⟨RX5, "copyRow", "([I[I)V"⟩
abbrev cX5_between : ByteArray := prog_1_method_6_code
def yX5_between : MethodName := ⟨RX5, "between", "(III)Z"⟩
abbrev cX5_has : ByteArray := prog_1_method_7_code
def yX5_has : MethodName := ⟨RX5, "has", "(II)Z"⟩
abbrev cX5_without : ByteArray := prog_1_method_8_code
def yX5_without : MethodName := ⟨RX5, "without", "(II)I"⟩
abbrev cX5_bad : ByteArray := prog_1_method_9_code
def yX5_bad : MethodName := ⟨RX5, "bad", "()I"⟩
abbrev cX5_bad_ : ByteArray := prog_1_method_10_code
def yX5_bad_ : MethodName := ⟨RX5, "bad", "(I)I"⟩
abbrev cX5_no : ByteArray := prog_1_method_11_code
def yX5_no : MethodName := ⟨RX5, "no", "()I"⟩
abbrev cX5_full : ByteArray := prog_1_method_12_code
def yX5_full : MethodName := ⟨RX5, "full", "()I"⟩
abbrev cX5_goodOf : ByteArray := prog_1_method_13_code
def yX5_goodOf : MethodName := ⟨RX5, "goodOf", "(III)I"⟩
abbrev cX5_joyOf : ByteArray := prog_1_method_14_code
def yX5_joyOf : MethodName := ⟨RX5, "joyOf", "(III)I"⟩
abbrev cX5_town : ByteArray := prog_1_method_15_code
def yX5_town : MethodName := ⟨RX5, "town", "()I"⟩
abbrev cX5_promise : ByteArray := prog_1_method_16_code
def yX5_promise : MethodName := ⟨RX5, "promise", "(II)I"⟩
abbrev cX5_hearer : ByteArray := prog_1_method_17_code
def yX5_hearer : MethodName := ⟨RX5, "hearer", "(II)I"⟩
abbrev cX5_buyer : ByteArray := prog_1_method_18_code
def yX5_buyer : MethodName := ⟨RX5, "buyer", "(I)I"⟩
abbrev cX5_type : ByteArray := prog_1_method_19_code
def yX5_type : MethodName := ⟨RX5, "type", "(I)I"⟩
abbrev cX5_clear : ByteArray := prog_1_method_20_code
def yX5_clear : MethodName := ⟨RX5, "clear", "()I"⟩
abbrev cX5_read : ByteArray := prog_1_method_21_code
def yX5_read : MethodName := ⟨RX5, "read", "()I"⟩
abbrev cX5_days : ByteArray := prog_1_method_22_code
def yX5_days : MethodName := ⟨RX5, "days", "(I)I"⟩
abbrev cX5_buys : ByteArray := prog_1_method_23_code
def yX5_buys : MethodName := ⟨RX5, "buys", "(II)I"⟩
abbrev cX5_keeps : ByteArray := prog_1_method_24_code
def yX5_keeps : MethodName := ⟨RX5, "keeps", "(II)I"⟩
abbrev cX5_undo : ByteArray := prog_1_method_25_code
def yX5_undo : MethodName := ⟨RX5, "undo", "()I"⟩
abbrev cX5_of : ByteArray := prog_1_method_26_code
def yX5_of : MethodName := ⟨RX5, "of", "(II)I"⟩
abbrev cX5_about : ByteArray := prog_1_method_27_code
def yX5_about : MethodName := ⟨RX5, "about", "(II)I"⟩
abbrev cX5_purse : ByteArray := prog_1_method_28_code
def yX5_purse : MethodName := ⟨RX5, "purse", "(II)I"⟩
abbrev cX5_good : ByteArray := prog_1_method_29_code
def yX5_good : MethodName := ⟨RX5, "good", "(II)I"⟩
abbrev cX5_joy : ByteArray := prog_1_method_30_code
def yX5_joy : MethodName := ⟨RX5, "joy", "(II)I"⟩
abbrev cX5_when : ByteArray := prog_1_method_31_code
def yX5_when : MethodName := ⟨RX5, "when", "(II)I"⟩
abbrev cX5_waits : ByteArray := prog_1_method_32_code
def yX5_waits : MethodName := ⟨RX5, "waits", "()I"⟩
abbrev cX5_fit : ByteArray := prog_1_method_33_code
def yX5_fit : MethodName := ⟨RX5, "fit", "(I)I"⟩
abbrev cX5_buy : ByteArray := prog_1_method_34_code
def yX5_buy : MethodName := ⟨RX5, "buy", "(III)I"⟩
abbrev cX5_cheap : ByteArray := prog_1_method_35_code
def yX5_cheap : MethodName := ⟨RX5, "cheap", "()I"⟩
abbrev cX5_weigh : ByteArray := prog_1_method_36_code
def yX5_weigh : MethodName := ⟨RX5, "weigh", "()V"⟩
abbrev cX5_mostJoy : ByteArray := prog_1_method_37_code
def yX5_mostJoy : MethodName := ⟨RX5, "mostJoy", "([IIII)I"⟩
abbrev cX5_firstFor : ByteArray := prog_1_method_38_code
def yX5_firstFor : MethodName := ⟨RX5, "firstFor", "(II)I"⟩
abbrev cX5_sumOver : ByteArray := prog_1_method_39_code
def yX5_sumOver : MethodName := ⟨RX5, "sumOver", "([III)I"⟩
abbrev cX5_bestBuy : ByteArray := prog_1_method_40_code
def yX5_bestBuy : MethodName := ⟨RX5, "bestBuy", "(III)I"⟩
abbrev cX5_leastPrice : ByteArray := prog_1_method_41_code
def yX5_leastPrice : MethodName := ⟨RX5, "leastPrice", "([I[IIII)I"⟩
abbrev cX5_seen : ByteArray := prog_1_method_42_code
def yX5_seen : MethodName := ⟨RX5, "seen", "(II)I"⟩
abbrev cX5_which : ByteArray := prog_1_method_43_code
def yX5_which : MethodName := ⟨RX5, "which", "()I"⟩
abbrev cX5_tell : ByteArray := prog_1_method_44_code
def yX5_tell : MethodName := ⟨RX5, "tell", "()I"⟩
abbrev cX5_note : ByteArray := prog_1_method_45_code
def yX5_note : MethodName := ⟨RX5, "note", "(IIII)I"⟩
abbrev cX5_mark : ByteArray := prog_1_method_46_code
def yX5_mark : MethodName := ⟨RX5, "mark", "(IIII)I"⟩
abbrev cX5_forget : ByteArray := prog_1_method_47_code
def yX5_forget : MethodName := ⟨RX5, "forget", "(I)I"⟩
abbrev cX5_is : ByteArray := prog_1_method_48_code
def yX5_is : MethodName := ⟨RX5, "is", "(I)I"⟩
abbrev cX5_look : ByteArray := prog_1_method_49_code
def yX5_look : MethodName := ⟨RX5, "look", "(I)I"⟩
abbrev cX5_kinds : ByteArray := prog_1_method_50_code
def yX5_kinds : MethodName := ⟨RX5, "kinds", "(I)I"⟩
abbrev cX5_ask : ByteArray := prog_1_method_51_code
def yX5_ask : MethodName := ⟨RX5, "ask", "(I)I"⟩
abbrev cX5_answerOf : ByteArray := prog_1_method_52_code
def yX5_answerOf : MethodName := ⟨RX5, "answerOf", "(IIII)I"⟩
abbrev cX5_agreeing : ByteArray := prog_1_method_53_code
def yX5_agreeing : MethodName := ⟨RX5, "agreeing", "(III)I"⟩
abbrev cX5_agrees : ByteArray := prog_1_method_54_code
def yX5_agrees : MethodName := ⟨RX5, "agrees", "(III)Z"⟩
abbrev cX5_bestParting : ByteArray := prog_1_method_55_code
def yX5_bestParting : MethodName := ⟨RX5, "bestParting", "(IIII)I"⟩
abbrev cX5_largestCrowd : ByteArray := prog_1_method_56_code
def yX5_largestCrowd : MethodName := ⟨RX5, "largestCrowd", "([II)I"⟩
abbrev cX5_bids : ByteArray := prog_1_method_57_code
def yX5_bids : MethodName := ⟨RX5, "bids", "(IIIII)I"⟩
abbrev cX5_firstGets : ByteArray := prog_1_method_58_code
def yX5_firstGets : MethodName := ⟨RX5, "firstGets", "(III)I"⟩
abbrev cX5_secondGets : ByteArray := prog_1_method_59_code
def yX5_secondGets : MethodName := ⟨RX5, "secondGets", "(III)I"⟩
abbrev cX5_rests : ByteArray := prog_1_method_60_code
def yX5_rests : MethodName := ⟨RX5, "rests", "(III)Z"⟩
abbrev cX5_redeemed : ByteArray := prog_1_method_61_code
def yX5_redeemed : MethodName := ⟨RX5, "redeemed", "(I)I"⟩
abbrev cX5_setFraction : ByteArray := prog_1_method_62_code
def yX5_setFraction : MethodName := ⟨RX5, "setFraction", "(JJ)V"⟩
abbrev cX5_commonDivisor : ByteArray := prog_1_method_63_code
def yX5_commonDivisor : MethodName := ⟨RX5, "commonDivisor", "(JJ)J"⟩
abbrev cX5_years : ByteArray := prog_1_method_64_code
def yX5_years : MethodName := ⟨RX5, "years", "(II)I"⟩
abbrev cX5_part : ByteArray := prog_1_method_65_code
def yX5_part : MethodName := ⟨RX5, "part", "(I)J"⟩
abbrev cX5_image : ByteArray := prog_1_method_66_code
def yX5_image : MethodName := ⟨RX5, "image", "(I)I"⟩
abbrev cX5_from : ByteArray := prog_1_method_67_code
def yX5_from : MethodName := ⟨RX5, "from", "(I)I"⟩
abbrev cX5_imageOf : ByteArray := prog_1_method_68_code
def yX5_imageOf : MethodName := ⟨RX5, "imageOf", "(I)LPledgeWindow$Shop;"⟩
abbrev cX5_status : ByteArray := prog_1_method_69_code
def yX5_status : MethodName := ⟨RX5, "status", "(I)I"⟩
abbrev cX5_count : ByteArray := prog_1_method_70_code
def yX5_count : MethodName := ⟨RX5, "count", "(I)I"⟩
abbrev cX5_countOf : ByteArray := prog_1_method_71_code
def yX5_countOf : MethodName := ⟨RX5, "countOf", "(I)I"⟩
abbrev cX5_digest : ByteArray := prog_1_method_72_code
def yX5_digest : MethodName := ⟨RX5, "digest", "()J"⟩
def RX6 : String := "PledgeWindowModel"
def TX6 : u_T := fun k => match k with
  | 0 => ("PledgeWindowModel", "all", "[I", true)
  | 1 => ("PledgeWindowModel", "kept", "[I", true)
  | 2 => ("PledgeWindowModel", "isKept", "[Z", true)
  | 3 => ("PledgeWindowModel", "refused", "[I", true)
  | 4 => ("PledgeWindowModel", "above", "J", false)
  | 5 => ("PledgeWindowModel", "below", "J", false)
  | 6 => ("PledgeWindowModel", "meant", "[I", true)
  | 7 => ("PledgeWindowModel", "bestMeant", "[I", true)
  | 8 => ("PledgeWindowModel", "tells", "[I", true)
  | 9 => ("PledgeWindowModel", "hand", "[I", true)
  | 10 => ("PledgeWindowModel", "bytes", "[I", true)
  | 11 => ("PledgeWindowModel", "bytesLong", "I", false)
  | 12 => ("PledgeWindowModel", "tokenAt", "I", false)
  | 13 => ("PledgeWindowModel", "tokenLong", "I", false)
  | 14 => ("PledgeWindowModel", "token", "I", false)
  | 15 => ("PledgeWindowModel", "value", "I", false)
  | 16 => ("PledgeWindowModel", "anew", "[I", true)
  | _ => ("PledgeWindowModel", "values", "[I", true)
def tyX6 : Nat → FieldType := fun k => match k with
  | 0 => .array .int
  | 1 => .array .int
  | 2 => .array .boolean
  | 3 => .array .int
  | 4 => .long
  | 5 => .long
  | 6 => .array .int
  | 7 => .array .int
  | 8 => .array .int
  | 9 => .array .int
  | 10 => .array .int
  | 11 => .int
  | 12 => .int
  | 13 => .int
  | 14 => .int
  | 15 => .int
  | 16 => .array .int
  | _ => .array .int
abbrev wsX60 : List Cond := u_ws RX6 TX6 18
theorem nmX6 : ∀ a, a < 18 → ∀ b, b < 18 → a ≠ b → (TX6 a).2.1 ≠ (TX6 b).2.1 := by decide +kernel
theorem tyX6_ok : ∀ k, k < 18 → parseFieldDescriptor (TX6 k).2.2.1 = some (tyX6 k) := by decide +kernel
abbrev cX6_init : ByteArray := prog_8_method_1_code
def yX6_init : MethodName := ⟨RX6, "<init>", "()V"⟩
abbrev cX6_in : ByteArray := prog_8_method_3_code
def yX6_in : MethodName := ⟨RX6, "in", "(JJJ)Z"⟩
abbrev cX6_bad : ByteArray := prog_8_method_4_code
def yX6_bad : MethodName := ⟨RX6, "bad", "(I)I"⟩
abbrev cX6_no : ByteArray := prog_8_method_5_code
def yX6_no : MethodName := ⟨RX6, "no", "()I"⟩
abbrev cX6_full : ByteArray := prog_8_method_6_code
def yX6_full : MethodName := ⟨RX6, "full", "()I"⟩
abbrev cX6_has : ByteArray := prog_8_method_7_code
def yX6_has : MethodName := ⟨RX6, "has", "(II)Z"⟩
abbrev cX6_begin : ByteArray := prog_8_method_8_code
def yX6_begin : MethodName := ⟨RX6, "begin", "([I)V"⟩
abbrev cX6_many : ByteArray := prog_8_method_9_code
def yX6_many : MethodName := ⟨RX6, "many", "()I"⟩
abbrev cX6_isPromise : ByteArray := prog_8_method_10_code
def yX6_isPromise : MethodName := ⟨RX6, "isPromise", "(I)Z"⟩
abbrev cX6_isHearer : ByteArray := prog_8_method_11_code
def yX6_isHearer : MethodName := ⟨RX6, "isHearer", "(I)Z"⟩
abbrev cX6_isBuyer : ByteArray := prog_8_method_12_code
def yX6_isBuyer : MethodName := ⟨RX6, "isBuyer", "(I)Z"⟩
abbrev cX6_isKind : ByteArray := prog_8_method_13_code
def yX6_isKind : MethodName := ⟨RX6, "isKind", "(I)Z"⟩
abbrev cX6_isNine : ByteArray := prog_8_method_14_code
def yX6_isNine : MethodName := ⟨RX6, "isNine", "(I)Z"⟩
abbrev cX6_town : ByteArray := prog_8_method_15_code
def yX6_town : MethodName := ⟨RX6, "town", "()I"⟩
abbrev cX6_layPromise : ByteArray := prog_8_method_16_code
def yX6_layPromise : MethodName := ⟨RX6, "layPromise", "([III)V"⟩
abbrev cX6_promise : ByteArray := prog_8_method_17_code
def yX6_promise : MethodName := ⟨RX6, "promise", "(II)I"⟩
abbrev cX6_hearer : ByteArray := prog_8_method_18_code
def yX6_hearer : MethodName := ⟨RX6, "hearer", "(II)I"⟩
abbrev cX6_buyer : ByteArray := prog_8_method_19_code
def yX6_buyer : MethodName := ⟨RX6, "buyer", "(I)I"⟩
abbrev cX6_goodAs : ByteArray := prog_8_method_20_code
def yX6_goodAs : MethodName := ⟨RX6, "goodAs", "(III)I"⟩
abbrev cX6_joyAs : ByteArray := prog_8_method_21_code
def yX6_joyAs : MethodName := ⟨RX6, "joyAs", "(III)I"⟩
abbrev cX6_goodOf : ByteArray := prog_8_method_22_code
def yX6_goodOf : MethodName := ⟨RX6, "goodOf", "([II)I"⟩
abbrev cX6_priceOf : ByteArray := prog_8_method_23_code
def yX6_priceOf : MethodName := ⟨RX6, "priceOf", "([II)I"⟩
abbrev cX6_joyOf : ByteArray := prog_8_method_24_code
def yX6_joyOf : MethodName := ⟨RX6, "joyOf", "([III)I"⟩
abbrev cX6_isShown : ByteArray := prog_8_method_25_code
def yX6_isShown : MethodName := ⟨RX6, "isShown", "([II)Z"⟩
abbrev cX6_isHeld : ByteArray := prog_8_method_26_code
def yX6_isHeld : MethodName := ⟨RX6, "isHeld", "([II)Z"⟩
abbrev cX6_goDay : ByteArray := prog_8_method_27_code
def yX6_goDay : MethodName := ⟨RX6, "goDay", "([I)V"⟩
abbrev cX6_goDays : ByteArray := prog_8_method_28_code
def yX6_goDays : MethodName := ⟨RX6, "goDays", "([II)V"⟩
abbrev cX6_save : ByteArray := prog_8_method_29_code
def yX6_save : MethodName := ⟨RX6, "save", "()V"⟩
abbrev cX6_days : ByteArray := prog_8_method_30_code
def yX6_days : MethodName := ⟨RX6, "days", "(I)I"⟩
abbrev cX6_mayBuy : ByteArray := prog_8_method_31_code
def yX6_mayBuy : MethodName := ⟨RX6, "mayBuy", "([III)Z"⟩
abbrev cX6_goBuy : ByteArray := prog_8_method_32_code
def yX6_goBuy : MethodName := ⟨RX6, "goBuy", "([III)V"⟩
abbrev cX6_goKeep : ByteArray := prog_8_method_33_code
def yX6_goKeep : MethodName := ⟨RX6, "goKeep", "([III)V"⟩
abbrev cX6_buys : ByteArray := prog_8_method_34_code
def yX6_buys : MethodName := ⟨RX6, "buys", "(II)I"⟩
abbrev cX6_keeps : ByteArray := prog_8_method_35_code
def yX6_keeps : MethodName := ⟨RX6, "keeps", "(II)I"⟩
abbrev cX6_undo : ByteArray := prog_8_method_36_code
def yX6_undo : MethodName := ⟨RX6, "undo", "()I"⟩
abbrev cX6_toldOf : ByteArray := prog_8_method_37_code
def yX6_toldOf : MethodName := ⟨RX6, "toldOf", "(II)I"⟩
abbrev cX6_of : ByteArray := prog_8_method_38_code
def yX6_of : MethodName := ⟨RX6, "of", "(II)I"⟩
abbrev cX6_allIn : ByteArray := prog_8_method_39_code
def yX6_allIn : MethodName := ⟨RX6, "allIn", "(I)I"⟩
abbrev cX6_about : ByteArray := prog_8_method_40_code
def yX6_about : MethodName := ⟨RX6, "about", "(II)I"⟩
abbrev cX6_purse : ByteArray := prog_8_method_41_code
def yX6_purse : MethodName := ⟨RX6, "purse", "(II)I"⟩
abbrev cX6_goodBehind : ByteArray := prog_8_method_42_code
def yX6_goodBehind : MethodName := ⟨RX6, "goodBehind", "(II)I"⟩
abbrev cX6_good : ByteArray := prog_8_method_43_code
def yX6_good : MethodName := ⟨RX6, "good", "(II)I"⟩
abbrev cX6_joy : ByteArray := prog_8_method_44_code
def yX6_joy : MethodName := ⟨RX6, "joy", "(II)I"⟩
abbrev cX6_when : ByteArray := prog_8_method_45_code
def yX6_when : MethodName := ⟨RX6, "when", "(II)I"⟩
abbrev cX6_waiting : ByteArray := prog_8_method_46_code
def yX6_waiting : MethodName := ⟨RX6, "waiting", "()I"⟩
abbrev cX6_waits : ByteArray := prog_8_method_47_code
def yX6_waits : MethodName := ⟨RX6, "waits", "()I"⟩
abbrev cX6_means : ByteArray := prog_8_method_48_code
def yX6_means : MethodName := ⟨RX6, "means", "(I)Z"⟩
abbrev cX6_codes : ByteArray := prog_8_method_49_code
def yX6_codes : MethodName := ⟨RX6, "codes", "()I"⟩
abbrev cX6_fit : ByteArray := prog_8_method_50_code
def yX6_fit : MethodName := ⟨RX6, "fit", "(I)I"⟩
abbrev cX6_buy : ByteArray := prog_8_method_51_code
def yX6_buy : MethodName := ⟨RX6, "buy", "(III)I"⟩
abbrev cX6_cheap : ByteArray := prog_8_method_52_code
def yX6_cheap : MethodName := ⟨RX6, "cheap", "()I"⟩
abbrev cX6_seen : ByteArray := prog_8_method_53_code
def yX6_seen : MethodName := ⟨RX6, "seen", "(II)I"⟩
abbrev cX6_seenOnes : ByteArray := prog_8_method_54_code
def yX6_seenOnes : MethodName := ⟨RX6, "seenOnes", "()I"⟩
abbrev cX6_which : ByteArray := prog_8_method_55_code
def yX6_which : MethodName := ⟨RX6, "which", "()I"⟩
abbrev cX6_mostAlike : ByteArray := prog_8_method_56_code
def yX6_mostAlike : MethodName := ⟨RX6, "mostAlike", "(I)I"⟩
abbrev cX6_tell : ByteArray := prog_8_method_57_code
def yX6_tell : MethodName := ⟨RX6, "tell", "()I"⟩
abbrev cX6_layFour : ByteArray := prog_8_method_58_code
def yX6_layFour : MethodName := ⟨RX6, "layFour", "(IIIII)V"⟩
abbrev cX6_note : ByteArray := prog_8_method_59_code
def yX6_note : MethodName := ⟨RX6, "note", "(IIII)I"⟩
abbrev cX6_mark : ByteArray := prog_8_method_60_code
def yX6_mark : MethodName := ⟨RX6, "mark", "(IIII)I"⟩
abbrev cX6_forget : ByteArray := prog_8_method_61_code
def yX6_forget : MethodName := ⟨RX6, "forget", "(I)I"⟩
abbrev cX6_kindsOfPromise : ByteArray := prog_8_method_62_code
def yX6_kindsOfPromise : MethodName := ⟨RX6, "kindsOfPromise", "(I)I"⟩
abbrev cX6_kindsOfHearer : ByteArray := prog_8_method_63_code
def yX6_kindsOfHearer : MethodName := ⟨RX6, "kindsOfHearer", "(I)I"⟩
abbrev cX6_is : ByteArray := prog_8_method_64_code
def yX6_is : MethodName := ⟨RX6, "is", "(I)I"⟩
abbrev cX6_look : ByteArray := prog_8_method_65_code
def yX6_look : MethodName := ⟨RX6, "look", "(I)I"⟩
abbrev cX6_kinds : ByteArray := prog_8_method_66_code
def yX6_kinds : MethodName := ⟨RX6, "kinds", "(I)I"⟩
abbrev cX6_ask : ByteArray := prog_8_method_67_code
def yX6_ask : MethodName := ⟨RX6, "ask", "(I)I"⟩
abbrev cX6_getsBy : ByteArray := prog_8_method_68_code
def yX6_getsBy : MethodName := ⟨RX6, "getsBy", "(IIZI)I"⟩
abbrev cX6_rests : ByteArray := prog_8_method_69_code
def yX6_rests : MethodName := ⟨RX6, "rests", "(III)Z"⟩
abbrev cX6_bids : ByteArray := prog_8_method_70_code
def yX6_bids : MethodName := ⟨RX6, "bids", "(IIIII)I"⟩
abbrev cX6_fraction : ByteArray := prog_8_method_71_code
def yX6_fraction : MethodName := ⟨RX6, "fraction", "(JJ)V"⟩
abbrev cX6_redeemed : ByteArray := prog_8_method_72_code
def yX6_redeemed : MethodName := ⟨RX6, "redeemed", "(I)I"⟩
abbrev cX6_years : ByteArray := prog_8_method_73_code
def yX6_years : MethodName := ⟨RX6, "years", "(II)I"⟩
abbrev cX6_type : ByteArray := prog_8_method_74_code
def yX6_type : MethodName := ⟨RX6, "type", "(I)I"⟩
abbrev cX6_clear : ByteArray := prog_8_method_75_code
def yX6_clear : MethodName := ⟨RX6, "clear", "()I"⟩
abbrev cX6_isSmall : ByteArray := prog_8_method_76_code
def yX6_isSmall : MethodName := ⟨RX6, "isSmall", "(I)Z"⟩
abbrev cX6_isFigure : ByteArray := prog_8_method_77_code
def yX6_isFigure : MethodName := ⟨RX6, "isFigure", "(I)Z"⟩
abbrev cX6_lookAt : ByteArray := prog_8_method_78_code
def yX6_lookAt : MethodName := ⟨RX6, "lookAt", "(I)V"⟩
abbrev cX6_goBehind : ByteArray := prog_8_method_79_code
def yX6_goBehind : MethodName := ⟨RX6, "goBehind", "()V"⟩
abbrev cX6_spells : ByteArray := prog_8_method_80_code
def yX6_spells : MethodName := ⟨RX6, "spells", "(IIIIIII)Z"⟩
abbrev cX6_takes : ByteArray := prog_8_method_81_code
def yX6_takes : MethodName := ⟨RX6, "takes", "(III)Z"⟩
abbrev cX6_takesPromise : ByteArray := prog_8_method_82_code
def yX6_takesPromise : MethodName := ⟨RX6, "takesPromise", "()Z"⟩
abbrev cX6_takesHearer : ByteArray := prog_8_method_83_code
def yX6_takesHearer : MethodName := ⟨RX6, "takesHearer", "()Z"⟩
abbrev cX6_takesBuyer : ByteArray := prog_8_method_84_code
def yX6_takesBuyer : MethodName := ⟨RX6, "takesBuyer", "()Z"⟩
abbrev cX6_takesBuy : ByteArray := prog_8_method_85_code
def yX6_takesBuy : MethodName := ⟨RX6, "takesBuy", "()Z"⟩
abbrev cX6_takesKeep : ByteArray := prog_8_method_86_code
def yX6_takesKeep : MethodName := ⟨RX6, "takesKeep", "()Z"⟩
abbrev cX6_takesDays : ByteArray := prog_8_method_87_code
def yX6_takesDays : MethodName := ⟨RX6, "takesDays", "()Z"⟩
abbrev cX6_spellsPromise : ByteArray := prog_8_method_88_code
def yX6_spellsPromise : MethodName := ⟨RX6, "spellsPromise", "()Z"⟩
abbrev cX6_takesItem : ByteArray := prog_8_method_89_code
def yX6_takesItem : MethodName := ⟨RX6, "takesItem", "()Z"⟩
abbrev cX6_read : ByteArray := prog_8_method_90_code
def yX6_read : MethodName := ⟨RX6, "read", "()I"⟩
abbrev cX6_part : ByteArray := prog_8_method_91_code
def yX6_part : MethodName := ⟨RX6, "part", "(I)J"⟩
abbrev cX6_image : ByteArray := prog_8_method_92_code
def yX6_image : MethodName := ⟨RX6, "image", "(I)I"⟩
abbrev cX6_from : ByteArray := prog_8_method_93_code
def yX6_from : MethodName := ⟨RX6, "from", "(I)I"⟩
abbrev cX6_status : ByteArray := prog_8_method_94_code
def yX6_status : MethodName := ⟨RX6, "status", "(I)I"⟩
abbrev cX6_counted : ByteArray := prog_8_method_95_code
def yX6_counted : MethodName := ⟨RX6, "counted", "(I)I"⟩
abbrev cX6_count : ByteArray := prog_8_method_96_code
def yX6_count : MethodName := ⟨RX6, "count", "(I)I"⟩
abbrev cX6_sums : ByteArray := prog_8_method_97_code
def yX6_sums : MethodName := ⟨RX6, "sums", "(JII)J"⟩
abbrev cX6_digest : ByteArray := prog_8_method_98_code
def yX6_digest : MethodName := ⟨RX6, "digest", "()J"⟩
def RJ6 : String := "java/lang/Integer"
def TJ6 : u_T := fun k => match k with
  | _ => ("", "", "", false)
def tyJ6 : Nat → FieldType := fun k => match k with
  | _ => .int
abbrev wsJ60 : List Cond := u_ws RJ6 TJ6 0
theorem nmJ6 : ∀ a, a < 0 → ∀ b, b < 0 → a ≠ b → (TJ6 a).2.1 ≠ (TJ6 b).2.1 := by decide +kernel
theorem tyJ6_ok : ∀ k, k < 0 → parseFieldDescriptor (TJ6 k).2.2.1 = some (tyJ6 k) := by decide +kernel
abbrev cJ6_bitCount_0f7a4 : ByteArray := prog_9_method_49_code
def yJ6_bitCount_0f7a4 : MethodName := ⟨RJ6, "bitCount", "(I)I"⟩
def RJ9 : String := "java/lang/Math"
def TJ9 : u_T := fun k => match k with
  | _ => ("", "", "", false)
def tyJ9 : Nat → FieldType := fun k => match k with
  | _ => .int
abbrev wsJ90 : List Cond := u_ws RJ9 TJ9 0
theorem nmJ9 : ∀ a, a < 0 → ∀ b, b < 0 → a ≠ b → (TJ9 a).2.1 ≠ (TJ9 b).2.1 := by decide +kernel
theorem tyJ9_ok : ∀ k, k < 0 → parseFieldDescriptor (TJ9 k).2.2.1 = some (tyJ9 k) := by decide +kernel
abbrev cJ9_abs_0f7a4 : ByteArray := prog_10_method_59_code
def yJ9_abs_0f7a4 : MethodName := ⟨RJ9, "abs", "(I)I"⟩
abbrev cJ9_max_7cf53 : ByteArray := prog_10_method_65_code
def yJ9_max_7cf53 : MethodName := ⟨RJ9, "max", "(II)I"⟩
abbrev cJ9_min_7cf53 : ByteArray := prog_10_method_69_code
def yJ9_min_7cf53 : MethodName := ⟨RJ9, "min", "(II)I"⟩
def RJ0 : String := "java/lang/String"
def TJ0 : u_T := fun k => match k with
  | _ => ("", "", "", false)
def tyJ0 : Nat → FieldType := fun k => match k with
  | _ => .int
abbrev wsJ00 : List Cond := u_ws RJ0 TJ0 0
theorem nmJ0 : ∀ a, a < 0 → ∀ b, b < 0 → a ≠ b → (TJ0 a).2.1 ≠ (TJ0 b).2.1 := by decide +kernel
theorem tyJ0_ok : ∀ k, k < 0 → parseFieldDescriptor (TJ0 k).2.2.1 = some (tyJ0 k) := by decide +kernel
abbrev cJ0_length_8abf5 : ByteArray := prog_11_method_54_code
def yJ0_length_8abf5 : MethodName := ⟨RJ0, "length", "()I"⟩
abbrev cJ0_charAt_5068e : ByteArray := prog_11_method_56_code
def yJ0_charAt_5068e : MethodName := ⟨RJ0, "charAt", "(I)C"⟩
abbrev cJ0_coder_7d493 : ByteArray := prog_11_method_152_code
def yJ0_coder_7d493 : MethodName := ⟨RJ0, "coder", "()B"⟩
abbrev cJ0_isLatin1_aae02 : ByteArray := prog_11_method_154_code
def yJ0_isLatin1_aae02 : MethodName := ⟨RJ0, "isLatin1", "()Z"⟩
abbrev cJ0_checkIndex_df160 : ByteArray := prog_11_method_155_code
def yJ0_checkIndex_df160 : MethodName := ⟨RJ0, "checkIndex", "(II)V"⟩
def RJ1 : String := "java/lang/StringLatin1"
def TJ1 : u_T := fun k => match k with
  | _ => ("", "", "", false)
def tyJ1 : Nat → FieldType := fun k => match k with
  | _ => .int
abbrev wsJ10 : List Cond := u_ws RJ1 TJ1 0
theorem nmJ1 : ∀ a, a < 0 → ∀ b, b < 0 → a ≠ b → (TJ1 a).2.1 ≠ (TJ1 b).2.1 := by decide +kernel
theorem tyJ1_ok : ∀ k, k < 0 → parseFieldDescriptor (TJ1 k).2.2.1 = some (tyJ1 k) := by decide +kernel
abbrev cJ1_charAt_3b067 : ByteArray := prog_12_method_2_code
def yJ1_charAt_3b067 : MethodName := ⟨RJ1, "charAt", "([BI)C"⟩
def RJ2 : String := "java/lang/StringUTF16"
def TJ2 : u_T := fun k => match k with
  | _ => ("", "", "", false)
def tyJ2 : Nat → FieldType := fun k => match k with
  | _ => .int
abbrev wsJ20 : List Cond := u_ws RJ2 TJ2 0
theorem nmJ2 : ∀ a, a < 0 → ∀ b, b < 0 → a ≠ b → (TJ2 a).2.1 ≠ (TJ2 b).2.1 := by decide +kernel
theorem tyJ2_ok : ∀ k, k < 0 → parseFieldDescriptor (TJ2 k).2.2.1 = some (tyJ2 k) := by decide +kernel
abbrev cJ2_getChar_3b067 : ByteArray := prog_13_method_5_code
def yJ2_getChar_3b067 : MethodName := ⟨RJ2, "getChar", "([BI)C"⟩
abbrev cJ2_length_9d52b : ByteArray := prog_13_method_6_code
def yJ2_length_9d52b : MethodName := ⟨RJ2, "length", "([B)I"⟩
abbrev cJ2_charAt_3b067 : ByteArray := prog_13_method_83_code
def yJ2_charAt_3b067 : MethodName := ⟨RJ2, "charAt", "([BI)C"⟩
abbrev cJ2_checkIndex_2214a : ByteArray := prog_13_method_91_code
def yJ2_checkIndex_2214a : MethodName := ⟨RJ2, "checkIndex", "(I[B)V"⟩
def RJ10 : String := "java/lang/System"
def TJ10 : u_T := fun k => match k with
  | _ => ("", "", "", false)
def tyJ10 : Nat → FieldType := fun k => match k with
  | _ => .int
abbrev wsJ100 : List Cond := u_ws RJ10 TJ10 0
theorem nmJ10 : ∀ a, a < 0 → ∀ b, b < 0 → a ≠ b → (TJ10 a).2.1 ≠ (TJ10 b).2.1 := by decide +kernel
theorem tyJ10_ok : ∀ k, k < 0 → parseFieldDescriptor (TJ10 k).2.2.1 = some (tyJ10 k) := by decide +kernel
def RJ3 : String := "jdk/internal/util/Preconditions"
def TJ3 : u_T := fun k => match k with
  | _ => ("", "", "", false)
def tyJ3 : Nat → FieldType := fun k => match k with
  | _ => .int
abbrev wsJ30 : List Cond := u_ws RJ3 TJ3 0
theorem nmJ3 : ∀ a, a < 0 → ∀ b, b < 0 → a ≠ b → (TJ3 a).2.1 ≠ (TJ3 b).2.1 := by decide +kernel
theorem tyJ3_ok : ∀ k, k < 0 → parseFieldDescriptor (TJ3 k).2.2.1 = some (tyJ3 k) := by decide +kernel
abbrev cJ3_checkIndex_8e157 : ByteArray := prog_15_method_11_code
def yJ3_checkIndex_8e157 : MethodName := ⟨RJ3, "checkIndex", "(IILjava/util/function/BiFunction;)I"⟩
def RL : String := "PledgeWindowLaw"
abbrev cL_law : ByteArray := code
def yL_law : MethodName := ⟨RL, "law", "([I)Z"⟩
abbrev vwCl : List vw_C := [(RX0, TX0, 3), (RX1, TX1, 2), (RX2, TX2, 9), (RX3, TX3, 6), (RX4, TX4, 12), (RX5, TX5, 13), (RX6, TX6, 18)]
end
section
theorem dX0_init_0 : decode cX0_init 0 = .ok (.aload_n 0, 1) := by decide +kernel
theorem dX0_init_1 : decode cX0_init 1 = .ok (.invokespecial 1, 3) := by decide +kernel
theorem dX0_init_4 : decode cX0_init 4 = .ok (.aload_n 0, 1) := by decide +kernel
theorem dX0_init_5 : decode cX0_init 5 = .ok (.iconst 0, 1) := by decide +kernel
theorem dX0_init_6 : decode cX0_init 6 = .ok (.putfield 7, 3) := by decide +kernel
theorem dX0_init_9 : decode cX0_init 9 = .ok (.aload_n 0, 1) := by decide +kernel
theorem dX0_init_10 : decode cX0_init 10 = .ok (.iconst 0, 1) := by decide +kernel
theorem dX0_init_11 : decode cX0_init 11 = .ok (.iload_n 1, 1) := by decide +kernel
theorem dX0_init_12 : decode cX0_init 12 = .ok (.invokestatic 13, 3) := by decide +kernel
theorem dX0_init_15 : decode cX0_init 15 = .ok (.putfield 19, 3) := by decide +kernel
theorem dX0_init_18 : decode cX0_init 18 = .ok (.aload_n 0, 1) := by decide +kernel
theorem dX0_init_19 : decode cX0_init 19 = .ok (.aload_n 0, 1) := by decide +kernel
theorem dX0_init_20 : decode cX0_init 20 = .ok (.getfield 19, 3) := by decide +kernel
theorem dX0_init_23 : decode cX0_init 23 = .ok (.iconst 4, 1) := by decide +kernel
theorem dX0_init_24 : decode cX0_init 24 = .ok (.imul, 1) := by decide +kernel
theorem dX0_init_25 : decode cX0_init 25 = .ok (.newarray .int, 2) := by decide +kernel
theorem dX0_init_27 : decode cX0_init 27 = .ok (.putfield 22, 3) := by decide +kernel
theorem dX0_init_30 : decode cX0_init 30 = .ok (.return_, 1) := by decide +kernel
theorem dX0_take_0 : decode cX0_take 0 = .ok (.aload_n 1, 1) := by decide +kernel
theorem dX0_take_1 : decode cX0_take 1 = .ok (.ifnonnull 4, 3) := by decide +kernel
theorem dX0_take_4 : decode cX0_take 4 = .ok (.return_, 1) := by decide +kernel
theorem dX0_take_5 : decode cX0_take 5 = .ok (.aload_n 1, 1) := by decide +kernel
theorem dX0_take_6 : decode cX0_take 6 = .ok (.getfield 22, 3) := by decide +kernel
theorem dX0_take_9 : decode cX0_take 9 = .ok (.aload_n 0, 1) := by decide +kernel
theorem dX0_take_10 : decode cX0_take 10 = .ok (.getfield 22, 3) := by decide +kernel
theorem dX0_take_13 : decode cX0_take 13 = .ok (.invokestatic 26, 3) := by decide +kernel
theorem dX0_take_16 : decode cX0_take 16 = .ok (.aload_n 0, 1) := by decide +kernel
theorem dX0_take_17 : decode cX0_take 17 = .ok (.aload_n 1, 1) := by decide +kernel
theorem dX0_take_18 : decode cX0_take 18 = .ok (.getfield 7, 3) := by decide +kernel
theorem dX0_take_21 : decode cX0_take 21 = .ok (.putfield 7, 3) := by decide +kernel
theorem dX0_take_24 : decode cX0_take 24 = .ok (.return_, 1) := by decide +kernel
theorem dX0_isFull_0 : decode cX0_isFull 0 = .ok (.aload_n 0, 1) := by decide +kernel
theorem dX0_isFull_1 : decode cX0_isFull 1 = .ok (.getfield 7, 3) := by decide +kernel
theorem dX0_isFull_4 : decode cX0_isFull 4 = .ok (.aload_n 0, 1) := by decide +kernel
theorem dX0_isFull_5 : decode cX0_isFull 5 = .ok (.getfield 19, 3) := by decide +kernel
theorem dX0_isFull_8 : decode cX0_isFull 8 = .ok (.if_icmp .lt 7, 3) := by decide +kernel
theorem dX0_isFull_11 : decode cX0_isFull 11 = .ok (.iconst 1, 1) := by decide +kernel
theorem dX0_isFull_12 : decode cX0_isFull 12 = .ok (.goto 4, 3) := by decide +kernel
theorem dX0_isFull_15 : decode cX0_isFull 15 = .ok (.iconst 0, 1) := by decide +kernel
theorem dX0_isFull_16 : decode cX0_isFull 16 = .ok (.ireturn, 1) := by decide +kernel
theorem dX0_add_0 : decode cX0_add 0 = .ok (.aload_n 0, 1) := by decide +kernel
theorem dX0_add_1 : decode cX0_add 1 = .ok (.getfield 7, 3) := by decide +kernel
theorem dX0_add_4 : decode cX0_add 4 = .ok (.iconst 4, 1) := by decide +kernel
theorem dX0_add_5 : decode cX0_add 5 = .ok (.imul, 1) := by decide +kernel
theorem dX0_add_6 : decode cX0_add 6 = .ok (.istore 5, 2) := by decide +kernel
theorem dX0_add_8 : decode cX0_add 8 = .ok (.aload_n 0, 1) := by decide +kernel
theorem dX0_add_9 : decode cX0_add 9 = .ok (.getfield 22, 3) := by decide +kernel
theorem dX0_add_12 : decode cX0_add 12 = .ok (.iload 5, 2) := by decide +kernel
theorem dX0_add_14 : decode cX0_add 14 = .ok (.iconst 0, 1) := by decide +kernel
theorem dX0_add_15 : decode cX0_add 15 = .ok (.iadd, 1) := by decide +kernel
theorem dX0_add_16 : decode cX0_add 16 = .ok (.iload_n 1, 1) := by decide +kernel
theorem dX0_add_17 : decode cX0_add 17 = .ok (.invokestatic 32, 3) := by decide +kernel
theorem dX0_add_20 : decode cX0_add 20 = .ok (.aload_n 0, 1) := by decide +kernel
theorem dX0_add_21 : decode cX0_add 21 = .ok (.getfield 22, 3) := by decide +kernel
theorem dX0_add_24 : decode cX0_add 24 = .ok (.iload 5, 2) := by decide +kernel
theorem dX0_add_26 : decode cX0_add 26 = .ok (.iconst 1, 1) := by decide +kernel
theorem dX0_add_27 : decode cX0_add 27 = .ok (.iadd, 1) := by decide +kernel
theorem dX0_add_28 : decode cX0_add 28 = .ok (.iload_n 2, 1) := by decide +kernel
theorem dX0_add_29 : decode cX0_add 29 = .ok (.invokestatic 32, 3) := by decide +kernel
theorem dX0_add_32 : decode cX0_add 32 = .ok (.aload_n 0, 1) := by decide +kernel
theorem dX0_add_33 : decode cX0_add 33 = .ok (.getfield 22, 3) := by decide +kernel
theorem dX0_add_36 : decode cX0_add 36 = .ok (.iload 5, 2) := by decide +kernel
theorem dX0_add_38 : decode cX0_add 38 = .ok (.iconst 2, 1) := by decide +kernel
theorem dX0_add_39 : decode cX0_add 39 = .ok (.iadd, 1) := by decide +kernel
theorem dX0_add_40 : decode cX0_add 40 = .ok (.iload_n 3, 1) := by decide +kernel
theorem dX0_add_41 : decode cX0_add 41 = .ok (.invokestatic 32, 3) := by decide +kernel
theorem dX0_add_44 : decode cX0_add 44 = .ok (.aload_n 0, 1) := by decide +kernel
theorem dX0_add_45 : decode cX0_add 45 = .ok (.getfield 22, 3) := by decide +kernel
theorem dX0_add_48 : decode cX0_add 48 = .ok (.iload 5, 2) := by decide +kernel
theorem dX0_add_50 : decode cX0_add 50 = .ok (.iconst 3, 1) := by decide +kernel
theorem dX0_add_51 : decode cX0_add 51 = .ok (.iadd, 1) := by decide +kernel
theorem dX0_add_52 : decode cX0_add 52 = .ok (.iload 4, 2) := by decide +kernel
theorem dX0_add_54 : decode cX0_add 54 = .ok (.invokestatic 32, 3) := by decide +kernel
theorem dX0_add_57 : decode cX0_add 57 = .ok (.aload_n 0, 1) := by decide +kernel
theorem dX0_add_58 : decode cX0_add 58 = .ok (.dup, 1) := by decide +kernel
theorem dX0_add_59 : decode cX0_add 59 = .ok (.getfield 7, 3) := by decide +kernel
theorem dX0_add_62 : decode cX0_add 62 = .ok (.iconst 1, 1) := by decide +kernel
theorem dX0_add_63 : decode cX0_add 63 = .ok (.iadd, 1) := by decide +kernel
theorem dX0_add_64 : decode cX0_add 64 = .ok (.putfield 7, 3) := by decide +kernel
theorem dX0_add_67 : decode cX0_add 67 = .ok (.aload_n 0, 1) := by decide +kernel
theorem dX0_add_68 : decode cX0_add 68 = .ok (.getfield 7, 3) := by decide +kernel
theorem dX0_add_71 : decode cX0_add 71 = .ok (.ireturn, 1) := by decide +kernel
theorem dX0_cell_0 : decode cX0_cell 0 = .ok (.aload_n 0, 1) := by decide +kernel
theorem dX0_cell_1 : decode cX0_cell 1 = .ok (.getfield 22, 3) := by decide +kernel
theorem dX0_cell_4 : decode cX0_cell 4 = .ok (.iload_n 1, 1) := by decide +kernel
theorem dX0_cell_5 : decode cX0_cell 5 = .ok (.iconst 4, 1) := by decide +kernel
theorem dX0_cell_6 : decode cX0_cell 6 = .ok (.imul, 1) := by decide +kernel
theorem dX0_cell_7 : decode cX0_cell 7 = .ok (.iload_n 2, 1) := by decide +kernel
theorem dX0_cell_8 : decode cX0_cell 8 = .ok (.iadd, 1) := by decide +kernel
theorem dX0_cell_9 : decode cX0_cell 9 = .ok (.invokestatic 36, 3) := by decide +kernel
theorem dX0_cell_12 : decode cX0_cell 12 = .ok (.ireturn, 1) := by decide +kernel
theorem dX0_digestOn_0 : decode cX0_digestOn 0 = .ok (.lload_n 1, 1) := by decide +kernel
theorem dX0_digestOn_1 : decode cX0_digestOn 1 = .ok (.lstore 4, 2) := by decide +kernel
theorem dX0_digestOn_3 : decode cX0_digestOn 3 = .ok (.iconst 0, 1) := by decide +kernel
theorem dX0_digestOn_4 : decode cX0_digestOn 4 = .ok (.istore 6, 2) := by decide +kernel
theorem dX0_digestOn_6 : decode cX0_digestOn 6 = .ok (.iload 6, 2) := by decide +kernel
theorem dX0_digestOn_8 : decode cX0_digestOn 8 = .ok (.aload_n 0, 1) := by decide +kernel
theorem dX0_digestOn_9 : decode cX0_digestOn 9 = .ok (.getfield 7, 3) := by decide +kernel
theorem dX0_digestOn_12 : decode cX0_digestOn 12 = .ok (.if_icmp .ge 42, 3) := by decide +kernel
theorem dX0_digestOn_15 : decode cX0_digestOn 15 = .ok (.iload_n 3, 1) := by decide +kernel
theorem dX0_digestOn_16 : decode cX0_digestOn 16 = .ok (.istore 7, 2) := by decide +kernel
theorem dX0_digestOn_18 : decode cX0_digestOn 18 = .ok (.iload 7, 2) := by decide +kernel
theorem dX0_digestOn_20 : decode cX0_digestOn 20 = .ok (.iconst 4, 1) := by decide +kernel
theorem dX0_digestOn_21 : decode cX0_digestOn 21 = .ok (.if_icmp .ge 27, 3) := by decide +kernel
theorem dX0_digestOn_24 : decode cX0_digestOn 24 = .ok (.ldc2_w 40, 3) := by decide +kernel
theorem dX0_digestOn_27 : decode cX0_digestOn 27 = .ok (.lload 4, 2) := by decide +kernel
theorem dX0_digestOn_29 : decode cX0_digestOn 29 = .ok (.lmul, 1) := by decide +kernel
theorem dX0_digestOn_30 : decode cX0_digestOn 30 = .ok (.aload_n 0, 1) := by decide +kernel
theorem dX0_digestOn_31 : decode cX0_digestOn 31 = .ok (.iload 6, 2) := by decide +kernel
theorem dX0_digestOn_33 : decode cX0_digestOn 33 = .ok (.iload 7, 2) := by decide +kernel
theorem dX0_digestOn_35 : decode cX0_digestOn 35 = .ok (.invokevirtual 42, 3) := by decide +kernel
theorem dX0_digestOn_38 : decode cX0_digestOn 38 = .ok (.i2l, 1) := by decide +kernel
theorem dX0_digestOn_39 : decode cX0_digestOn 39 = .ok (.ladd, 1) := by decide +kernel
theorem dX0_digestOn_40 : decode cX0_digestOn 40 = .ok (.lstore 4, 2) := by decide +kernel
theorem dX0_digestOn_42 : decode cX0_digestOn 42 = .ok (.iinc 7 1, 3) := by decide +kernel
theorem dX0_digestOn_45 : decode cX0_digestOn 45 = .ok (.goto (-27), 3) := by decide +kernel
theorem dX0_digestOn_48 : decode cX0_digestOn 48 = .ok (.iinc 6 1, 3) := by decide +kernel
theorem dX0_digestOn_51 : decode cX0_digestOn 51 = .ok (.goto (-45), 3) := by decide +kernel
theorem dX0_digestOn_54 : decode cX0_digestOn 54 = .ok (.lload 4, 2) := by decide +kernel
theorem dX0_digestOn_56 : decode cX0_digestOn 56 = .ok (.lreturn, 1) := by decide +kernel
theorem dX1_init_0 : decode cX1_init 0 = .ok (.aload_n 0, 1) := by decide +kernel
theorem dX1_init_1 : decode cX1_init 1 = .ok (.invokespecial 5, 3) := by decide +kernel
theorem dX1_init_4 : decode cX1_init 4 = .ok (.aload_n 0, 1) := by decide +kernel
theorem dX1_init_5 : decode cX1_init 5 = .ok (.sipush 152, 3) := by decide +kernel
theorem dX1_init_8 : decode cX1_init 8 = .ok (.newarray .int, 2) := by decide +kernel
theorem dX1_init_10 : decode cX1_init 10 = .ok (.putfield 11, 3) := by decide +kernel
theorem dX1_init_13 : decode cX1_init 13 = .ok (.aload_n 0, 1) := by decide +kernel
theorem dX1_init_14 : decode cX1_init 14 = .ok (.iconst 0, 1) := by decide +kernel
theorem dX1_init_15 : decode cX1_init 15 = .ok (.putfield 15, 3) := by decide +kernel
theorem dX1_init_18 : decode cX1_init 18 = .ok (.return_, 1) := by decide +kernel
theorem dX1_take_0 : decode cX1_take 0 = .ok (.aload_n 1, 1) := by decide +kernel
theorem dX1_take_1 : decode cX1_take 1 = .ok (.ifnonnull 4, 3) := by decide +kernel
theorem dX1_take_4 : decode cX1_take 4 = .ok (.return_, 1) := by decide +kernel
theorem dX1_take_5 : decode cX1_take 5 = .ok (.aload_n 1, 1) := by decide +kernel
theorem dX1_take_6 : decode cX1_take 6 = .ok (.getfield 11, 3) := by decide +kernel
theorem dX1_take_9 : decode cX1_take 9 = .ok (.aload_n 0, 1) := by decide +kernel
theorem dX1_take_10 : decode cX1_take 10 = .ok (.getfield 11, 3) := by decide +kernel
theorem dX1_take_13 : decode cX1_take 13 = .ok (.invokestatic 19, 3) := by decide +kernel
theorem dX1_take_16 : decode cX1_take 16 = .ok (.aload_n 0, 1) := by decide +kernel
theorem dX1_take_17 : decode cX1_take 17 = .ok (.aload_n 1, 1) := by decide +kernel
theorem dX1_take_18 : decode cX1_take 18 = .ok (.getfield 15, 3) := by decide +kernel
theorem dX1_take_21 : decode cX1_take 21 = .ok (.putfield 15, 3) := by decide +kernel
theorem dX1_take_24 : decode cX1_take 24 = .ok (.return_, 1) := by decide +kernel
theorem dX1_save_0 : decode cX1_save 0 = .ok (.aload_n 1, 1) := by decide +kernel
theorem dX1_save_1 : decode cX1_save 1 = .ok (.ifnonnull 4, 3) := by decide +kernel
theorem dX1_save_4 : decode cX1_save 4 = .ok (.return_, 1) := by decide +kernel
theorem dX1_save_5 : decode cX1_save 5 = .ok (.aload_n 0, 1) := by decide +kernel
theorem dX1_save_6 : decode cX1_save 6 = .ok (.getfield 15, 3) := by decide +kernel
theorem dX1_save_9 : decode cX1_save 9 = .ok (.bipush 8, 2) := by decide +kernel
theorem dX1_save_11 : decode cX1_save 11 = .ok (.if_icmp .lt 26, 3) := by decide +kernel
theorem dX1_save_14 : decode cX1_save 14 = .ok (.aload_n 0, 1) := by decide +kernel
theorem dX1_save_15 : decode cX1_save 15 = .ok (.getfield 11, 3) := by decide +kernel
theorem dX1_save_18 : decode cX1_save 18 = .ok (.bipush 19, 2) := by decide +kernel
theorem dX1_save_20 : decode cX1_save 20 = .ok (.aload_n 0, 1) := by decide +kernel
theorem dX1_save_21 : decode cX1_save 21 = .ok (.getfield 11, 3) := by decide +kernel
theorem dX1_save_24 : decode cX1_save 24 = .ok (.iconst 0, 1) := by decide +kernel
theorem dX1_save_25 : decode cX1_save 25 = .ok (.sipush 133, 3) := by decide +kernel
theorem dX1_save_28 : decode cX1_save 28 = .ok (.invokestatic 23, 3) := by decide +kernel
theorem dX1_save_31 : decode cX1_save 31 = .ok (.aload_n 0, 1) := by decide +kernel
theorem dX1_save_32 : decode cX1_save 32 = .ok (.bipush 7, 2) := by decide +kernel
theorem dX1_save_34 : decode cX1_save 34 = .ok (.putfield 15, 3) := by decide +kernel
theorem dX1_save_37 : decode cX1_save 37 = .ok (.aload_n 0, 1) := by decide +kernel
theorem dX1_save_38 : decode cX1_save 38 = .ok (.getfield 15, 3) := by decide +kernel
theorem dX1_save_41 : decode cX1_save 41 = .ok (.bipush 19, 2) := by decide +kernel
theorem dX1_save_43 : decode cX1_save 43 = .ok (.imul, 1) := by decide +kernel
theorem dX1_save_44 : decode cX1_save 44 = .ok (.istore_n 2, 1) := by decide +kernel
theorem dX1_save_45 : decode cX1_save 45 = .ok (.aload_n 1, 1) := by decide +kernel
theorem dX1_save_46 : decode cX1_save 46 = .ok (.getfield 27, 3) := by decide +kernel
theorem dX1_save_49 : decode cX1_save 49 = .ok (.iconst 0, 1) := by decide +kernel
theorem dX1_save_50 : decode cX1_save 50 = .ok (.aload_n 0, 1) := by decide +kernel
theorem dX1_save_51 : decode cX1_save 51 = .ok (.getfield 11, 3) := by decide +kernel
theorem dX1_save_54 : decode cX1_save 54 = .ok (.iload_n 2, 1) := by decide +kernel
theorem dX1_save_55 : decode cX1_save 55 = .ok (.bipush 7, 2) := by decide +kernel
theorem dX1_save_57 : decode cX1_save 57 = .ok (.invokestatic 23, 3) := by decide +kernel
theorem dX1_save_60 : decode cX1_save 60 = .ok (.aload_n 1, 1) := by decide +kernel
theorem dX1_save_61 : decode cX1_save 61 = .ok (.getfield 32, 3) := by decide +kernel
theorem dX1_save_64 : decode cX1_save 64 = .ok (.iconst 0, 1) := by decide +kernel
theorem dX1_save_65 : decode cX1_save 65 = .ok (.aload_n 0, 1) := by decide +kernel
theorem dX1_save_66 : decode cX1_save 66 = .ok (.getfield 11, 3) := by decide +kernel
theorem dX1_save_69 : decode cX1_save 69 = .ok (.iload_n 2, 1) := by decide +kernel
theorem dX1_save_70 : decode cX1_save 70 = .ok (.bipush 7, 2) := by decide +kernel
theorem dX1_save_72 : decode cX1_save 72 = .ok (.iadd, 1) := by decide +kernel
theorem dX1_save_73 : decode cX1_save 73 = .ok (.bipush 7, 2) := by decide +kernel
theorem dX1_save_75 : decode cX1_save 75 = .ok (.invokestatic 23, 3) := by decide +kernel
theorem dX1_save_78 : decode cX1_save 78 = .ok (.aload_n 1, 1) := by decide +kernel
theorem dX1_save_79 : decode cX1_save 79 = .ok (.getfield 35, 3) := by decide +kernel
theorem dX1_save_82 : decode cX1_save 82 = .ok (.iconst 0, 1) := by decide +kernel
theorem dX1_save_83 : decode cX1_save 83 = .ok (.aload_n 0, 1) := by decide +kernel
theorem dX1_save_84 : decode cX1_save 84 = .ok (.getfield 11, 3) := by decide +kernel
theorem dX1_save_87 : decode cX1_save 87 = .ok (.iload_n 2, 1) := by decide +kernel
theorem dX1_save_88 : decode cX1_save 88 = .ok (.bipush 14, 2) := by decide +kernel
theorem dX1_save_90 : decode cX1_save 90 = .ok (.iadd, 1) := by decide +kernel
theorem dX1_save_91 : decode cX1_save 91 = .ok (.iconst 3, 1) := by decide +kernel
theorem dX1_save_92 : decode cX1_save 92 = .ok (.invokestatic 23, 3) := by decide +kernel
theorem dX1_save_95 : decode cX1_save 95 = .ok (.aload_n 0, 1) := by decide +kernel
theorem dX1_save_96 : decode cX1_save 96 = .ok (.getfield 11, 3) := by decide +kernel
theorem dX1_save_99 : decode cX1_save 99 = .ok (.iload_n 2, 1) := by decide +kernel
theorem dX1_save_100 : decode cX1_save 100 = .ok (.bipush 17, 2) := by decide +kernel
theorem dX1_save_102 : decode cX1_save 102 = .ok (.iadd, 1) := by decide +kernel
theorem dX1_save_103 : decode cX1_save 103 = .ok (.aload_n 1, 1) := by decide +kernel
theorem dX1_save_104 : decode cX1_save 104 = .ok (.getfield 38, 3) := by decide +kernel
theorem dX1_save_107 : decode cX1_save 107 = .ok (.invokestatic 41, 3) := by decide +kernel
theorem dX1_save_110 : decode cX1_save 110 = .ok (.aload_n 0, 1) := by decide +kernel
theorem dX1_save_111 : decode cX1_save 111 = .ok (.getfield 11, 3) := by decide +kernel
theorem dX1_save_114 : decode cX1_save 114 = .ok (.iload_n 2, 1) := by decide +kernel
theorem dX1_save_115 : decode cX1_save 115 = .ok (.bipush 18, 2) := by decide +kernel
theorem dX1_save_117 : decode cX1_save 117 = .ok (.iadd, 1) := by decide +kernel
theorem dX1_save_118 : decode cX1_save 118 = .ok (.aload_n 1, 1) := by decide +kernel
theorem dX1_save_119 : decode cX1_save 119 = .ok (.getfield 45, 3) := by decide +kernel
theorem dX1_save_122 : decode cX1_save 122 = .ok (.invokestatic 41, 3) := by decide +kernel
theorem dX1_save_125 : decode cX1_save 125 = .ok (.aload_n 0, 1) := by decide +kernel
theorem dX1_save_126 : decode cX1_save 126 = .ok (.dup, 1) := by decide +kernel
theorem dX1_save_127 : decode cX1_save 127 = .ok (.getfield 15, 3) := by decide +kernel
theorem dX1_save_130 : decode cX1_save 130 = .ok (.iconst 1, 1) := by decide +kernel
theorem dX1_save_131 : decode cX1_save 131 = .ok (.iadd, 1) := by decide +kernel
theorem dX1_save_132 : decode cX1_save 132 = .ok (.putfield 15, 3) := by decide +kernel
theorem dX1_save_135 : decode cX1_save 135 = .ok (.return_, 1) := by decide +kernel
theorem dX1_restore_0 : decode cX1_restore 0 = .ok (.aload_n 1, 1) := by decide +kernel
theorem dX1_restore_1 : decode cX1_restore 1 = .ok (.ifnull 10, 3) := by decide +kernel
theorem dX1_restore_4 : decode cX1_restore 4 = .ok (.aload_n 0, 1) := by decide +kernel
theorem dX1_restore_5 : decode cX1_restore 5 = .ok (.getfield 15, 3) := by decide +kernel
theorem dX1_restore_8 : decode cX1_restore 8 = .ok (.ifCond .gt 4, 3) := by decide +kernel
theorem dX1_restore_11 : decode cX1_restore 11 = .ok (.return_, 1) := by decide +kernel
theorem dX1_restore_12 : decode cX1_restore 12 = .ok (.aload_n 0, 1) := by decide +kernel
theorem dX1_restore_13 : decode cX1_restore 13 = .ok (.dup, 1) := by decide +kernel
theorem dX1_restore_14 : decode cX1_restore 14 = .ok (.getfield 15, 3) := by decide +kernel
theorem dX1_restore_17 : decode cX1_restore 17 = .ok (.iconst 1, 1) := by decide +kernel
theorem dX1_restore_18 : decode cX1_restore 18 = .ok (.isub, 1) := by decide +kernel
theorem dX1_restore_19 : decode cX1_restore 19 = .ok (.putfield 15, 3) := by decide +kernel
theorem dX1_restore_22 : decode cX1_restore 22 = .ok (.aload_n 0, 1) := by decide +kernel
theorem dX1_restore_23 : decode cX1_restore 23 = .ok (.getfield 15, 3) := by decide +kernel
theorem dX1_restore_26 : decode cX1_restore 26 = .ok (.bipush 19, 2) := by decide +kernel
theorem dX1_restore_28 : decode cX1_restore 28 = .ok (.imul, 1) := by decide +kernel
theorem dX1_restore_29 : decode cX1_restore 29 = .ok (.istore_n 2, 1) := by decide +kernel
theorem dX1_restore_30 : decode cX1_restore 30 = .ok (.aload_n 0, 1) := by decide +kernel
theorem dX1_restore_31 : decode cX1_restore 31 = .ok (.getfield 11, 3) := by decide +kernel
theorem dX1_restore_34 : decode cX1_restore 34 = .ok (.iload_n 2, 1) := by decide +kernel
theorem dX1_restore_35 : decode cX1_restore 35 = .ok (.aload_n 1, 1) := by decide +kernel
theorem dX1_restore_36 : decode cX1_restore 36 = .ok (.getfield 27, 3) := by decide +kernel
theorem dX1_restore_39 : decode cX1_restore 39 = .ok (.iconst 0, 1) := by decide +kernel
theorem dX1_restore_40 : decode cX1_restore 40 = .ok (.bipush 7, 2) := by decide +kernel
theorem dX1_restore_42 : decode cX1_restore 42 = .ok (.invokestatic 23, 3) := by decide +kernel
theorem dX1_restore_45 : decode cX1_restore 45 = .ok (.aload_n 0, 1) := by decide +kernel
theorem dX1_restore_46 : decode cX1_restore 46 = .ok (.getfield 11, 3) := by decide +kernel
theorem dX1_restore_49 : decode cX1_restore 49 = .ok (.iload_n 2, 1) := by decide +kernel
theorem dX1_restore_50 : decode cX1_restore 50 = .ok (.bipush 7, 2) := by decide +kernel
theorem dX1_restore_52 : decode cX1_restore 52 = .ok (.iadd, 1) := by decide +kernel
theorem dX1_restore_53 : decode cX1_restore 53 = .ok (.aload_n 1, 1) := by decide +kernel
theorem dX1_restore_54 : decode cX1_restore 54 = .ok (.getfield 32, 3) := by decide +kernel
theorem dX1_restore_57 : decode cX1_restore 57 = .ok (.iconst 0, 1) := by decide +kernel
theorem dX1_restore_58 : decode cX1_restore 58 = .ok (.bipush 7, 2) := by decide +kernel
theorem dX1_restore_60 : decode cX1_restore 60 = .ok (.invokestatic 23, 3) := by decide +kernel
theorem dX1_restore_63 : decode cX1_restore 63 = .ok (.aload_n 0, 1) := by decide +kernel
theorem dX1_restore_64 : decode cX1_restore 64 = .ok (.getfield 11, 3) := by decide +kernel
theorem dX1_restore_67 : decode cX1_restore 67 = .ok (.iload_n 2, 1) := by decide +kernel
theorem dX1_restore_68 : decode cX1_restore 68 = .ok (.bipush 14, 2) := by decide +kernel
theorem dX1_restore_70 : decode cX1_restore 70 = .ok (.iadd, 1) := by decide +kernel
theorem dX1_restore_71 : decode cX1_restore 71 = .ok (.aload_n 1, 1) := by decide +kernel
theorem dX1_restore_72 : decode cX1_restore 72 = .ok (.getfield 35, 3) := by decide +kernel
theorem dX1_restore_75 : decode cX1_restore 75 = .ok (.iconst 0, 1) := by decide +kernel
theorem dX1_restore_76 : decode cX1_restore 76 = .ok (.iconst 3, 1) := by decide +kernel
theorem dX1_restore_77 : decode cX1_restore 77 = .ok (.invokestatic 23, 3) := by decide +kernel
theorem dX1_restore_80 : decode cX1_restore 80 = .ok (.aload_n 1, 1) := by decide +kernel
theorem dX1_restore_81 : decode cX1_restore 81 = .ok (.aload_n 0, 1) := by decide +kernel
theorem dX1_restore_82 : decode cX1_restore 82 = .ok (.getfield 11, 3) := by decide +kernel
theorem dX1_restore_85 : decode cX1_restore 85 = .ok (.iload_n 2, 1) := by decide +kernel
theorem dX1_restore_86 : decode cX1_restore 86 = .ok (.bipush 17, 2) := by decide +kernel
theorem dX1_restore_88 : decode cX1_restore 88 = .ok (.iadd, 1) := by decide +kernel
theorem dX1_restore_89 : decode cX1_restore 89 = .ok (.invokestatic 48, 3) := by decide +kernel
theorem dX1_restore_92 : decode cX1_restore 92 = .ok (.putfield 38, 3) := by decide +kernel
theorem dX1_restore_95 : decode cX1_restore 95 = .ok (.aload_n 1, 1) := by decide +kernel
theorem dX1_restore_96 : decode cX1_restore 96 = .ok (.aload_n 0, 1) := by decide +kernel
theorem dX1_restore_97 : decode cX1_restore 97 = .ok (.getfield 11, 3) := by decide +kernel
theorem dX1_restore_100 : decode cX1_restore 100 = .ok (.iload_n 2, 1) := by decide +kernel
theorem dX1_restore_101 : decode cX1_restore 101 = .ok (.bipush 18, 2) := by decide +kernel
theorem dX1_restore_103 : decode cX1_restore 103 = .ok (.iadd, 1) := by decide +kernel
theorem dX1_restore_104 : decode cX1_restore 104 = .ok (.invokestatic 48, 3) := by decide +kernel
theorem dX1_restore_107 : decode cX1_restore 107 = .ok (.putfield 45, 3) := by decide +kernel
theorem dX1_restore_110 : decode cX1_restore 110 = .ok (.return_, 1) := by decide +kernel
theorem dX2_init_0 : decode cX2_init 0 = .ok (.aload_n 0, 1) := by decide +kernel
theorem dX2_init_1 : decode cX2_init 1 = .ok (.invokespecial 3, 3) := by decide +kernel
theorem dX2_init_4 : decode cX2_init 4 = .ok (.aload_n 0, 1) := by decide +kernel
theorem dX2_init_5 : decode cX2_init 5 = .ok (.sipush 150, 3) := by decide +kernel
theorem dX2_init_8 : decode cX2_init 8 = .ok (.newarray .int, 2) := by decide +kernel
theorem dX2_init_10 : decode cX2_init 10 = .ok (.putfield 9, 3) := by decide +kernel
theorem dX2_init_13 : decode cX2_init 13 = .ok (.aload_n 0, 1) := by decide +kernel
theorem dX2_init_14 : decode cX2_init 14 = .ok (.new 15, 3) := by decide +kernel
theorem dX2_init_17 : decode cX2_init 17 = .ok (.dup, 1) := by decide +kernel
theorem dX2_init_18 : decode cX2_init 18 = .ok (.invokespecial 17, 3) := by decide +kernel
theorem dX2_init_21 : decode cX2_init 21 = .ok (.putfield 18, 3) := by decide +kernel
theorem dX2_init_24 : decode cX2_init 24 = .ok (.aload_n 0, 1) := by decide +kernel
theorem dX2_init_25 : decode cX2_init 25 = .ok (.iconst 0, 1) := by decide +kernel
theorem dX2_init_26 : decode cX2_init 26 = .ok (.putfield 22, 3) := by decide +kernel
theorem dX2_init_29 : decode cX2_init 29 = .ok (.aload_n 0, 1) := by decide +kernel
theorem dX2_init_30 : decode cX2_init 30 = .ok (.iconst (-1), 1) := by decide +kernel
theorem dX2_init_31 : decode cX2_init 31 = .ok (.putfield 26, 3) := by decide +kernel
theorem dX2_init_34 : decode cX2_init 34 = .ok (.aload_n 0, 1) := by decide +kernel
theorem dX2_init_35 : decode cX2_init 35 = .ok (.iconst 0, 1) := by decide +kernel
theorem dX2_init_36 : decode cX2_init 36 = .ok (.putfield 29, 3) := by decide +kernel
theorem dX2_init_39 : decode cX2_init 39 = .ok (.aload_n 0, 1) := by decide +kernel
theorem dX2_init_40 : decode cX2_init 40 = .ok (.iconst 0, 1) := by decide +kernel
theorem dX2_init_41 : decode cX2_init 41 = .ok (.putfield 32, 3) := by decide +kernel
theorem dX2_init_44 : decode cX2_init 44 = .ok (.aload_n 0, 1) := by decide +kernel
theorem dX2_init_45 : decode cX2_init 45 = .ok (.iconst 0, 1) := by decide +kernel
theorem dX2_init_46 : decode cX2_init 46 = .ok (.putfield 35, 3) := by decide +kernel
theorem dX2_init_49 : decode cX2_init 49 = .ok (.aload_n 0, 1) := by decide +kernel
theorem dX2_init_50 : decode cX2_init 50 = .ok (.iconst 0, 1) := by decide +kernel
theorem dX2_init_51 : decode cX2_init 51 = .ok (.putfield 38, 3) := by decide +kernel
theorem dX2_init_54 : decode cX2_init 54 = .ok (.aload_n 0, 1) := by decide +kernel
theorem dX2_init_55 : decode cX2_init 55 = .ok (.iconst 0, 1) := by decide +kernel
theorem dX2_init_56 : decode cX2_init 56 = .ok (.putfield 41, 3) := by decide +kernel
theorem dX2_init_59 : decode cX2_init 59 = .ok (.return_, 1) := by decide +kernel
theorem dX2_begin_0 : decode cX2_begin 0 = .ok (.aload_n 0, 1) := by decide +kernel
theorem dX2_begin_1 : decode cX2_begin 1 = .ok (.getfield 18, 3) := by decide +kernel
theorem dX2_begin_4 : decode cX2_begin 4 = .ok (.invokevirtual 44, 3) := by decide +kernel
theorem dX2_begin_7 : decode cX2_begin 7 = .ok (.aload_n 0, 1) := by decide +kernel
theorem dX2_begin_8 : decode cX2_begin 8 = .ok (.iconst (-1), 1) := by decide +kernel
theorem dX2_begin_9 : decode cX2_begin 9 = .ok (.putfield 26, 3) := by decide +kernel
theorem dX2_begin_12 : decode cX2_begin 12 = .ok (.aload_n 0, 1) := by decide +kernel
theorem dX2_begin_13 : decode cX2_begin 13 = .ok (.iconst 0, 1) := by decide +kernel
theorem dX2_begin_14 : decode cX2_begin 14 = .ok (.putfield 29, 3) := by decide +kernel
theorem dX2_begin_17 : decode cX2_begin 17 = .ok (.aload_n 0, 1) := by decide +kernel
theorem dX2_begin_18 : decode cX2_begin 18 = .ok (.iconst 0, 1) := by decide +kernel
theorem dX2_begin_19 : decode cX2_begin 19 = .ok (.putfield 38, 3) := by decide +kernel
theorem dX2_begin_22 : decode cX2_begin 22 = .ok (.return_, 1) := by decide +kernel
theorem dX2_reachesItem_0 : decode cX2_reachesItem 0 = .ok (.aload_n 0, 1) := by decide +kernel
theorem dX2_reachesItem_1 : decode cX2_reachesItem 1 = .ok (.invokevirtual 47, 3) := by decide +kernel
theorem dX2_reachesItem_4 : decode cX2_reachesItem 4 = .ok (.aload_n 0, 1) := by decide +kernel
theorem dX2_reachesItem_5 : decode cX2_reachesItem 5 = .ok (.getfield 26, 3) := by decide +kernel
theorem dX2_reachesItem_8 : decode cX2_reachesItem 8 = .ok (.iconst (-1), 1) := by decide +kernel
theorem dX2_reachesItem_9 : decode cX2_reachesItem 9 = .ok (.if_icmp .ne 21, 3) := by decide +kernel
theorem dX2_reachesItem_12 : decode cX2_reachesItem 12 = .ok (.aload_n 0, 1) := by decide +kernel
theorem dX2_reachesItem_13 : decode cX2_reachesItem 13 = .ok (.getfield 32, 3) := by decide +kernel
theorem dX2_reachesItem_16 : decode cX2_reachesItem 16 = .ok (.ifCond .ne 10, 3) := by decide +kernel
theorem dX2_reachesItem_19 : decode cX2_reachesItem 19 = .ok (.aload_n 0, 1) := by decide +kernel
theorem dX2_reachesItem_20 : decode cX2_reachesItem 20 = .ok (.getfield 29, 3) := by decide +kernel
theorem dX2_reachesItem_23 : decode cX2_reachesItem 23 = .ok (.ifCond .ne 7, 3) := by decide +kernel
theorem dX2_reachesItem_26 : decode cX2_reachesItem 26 = .ok (.iconst 1, 1) := by decide +kernel
theorem dX2_reachesItem_27 : decode cX2_reachesItem 27 = .ok (.goto 4, 3) := by decide +kernel
theorem dX2_reachesItem_30 : decode cX2_reachesItem 30 = .ok (.iconst 0, 1) := by decide +kernel
theorem dX2_reachesItem_31 : decode cX2_reachesItem 31 = .ok (.ireturn, 1) := by decide +kernel
theorem dX2_readItem_0 : decode cX2_readItem 0 = .ok (.aload_n 0, 1) := by decide +kernel
theorem dX2_readItem_1 : decode cX2_readItem 1 = .ok (.invokevirtual 50, 3) := by decide +kernel
theorem dX2_readItem_4 : decode cX2_readItem 4 = .ok (.istore_n 1, 1) := by decide +kernel
theorem dX2_readItem_5 : decode cX2_readItem 5 = .ok (.aload_n 0, 1) := by decide +kernel
theorem dX2_readItem_6 : decode cX2_readItem 6 = .ok (.iload_n 1, 1) := by decide +kernel
theorem dX2_readItem_7 : decode cX2_readItem 7 = .ok (.invokevirtual 54, 3) := by decide +kernel
theorem dX2_readItem_10 : decode cX2_readItem 10 = .ok (.ifCond .ne 8, 3) := by decide +kernel
theorem dX2_readItem_13 : decode cX2_readItem 13 = .ok (.aload_n 0, 1) := by decide +kernel
theorem dX2_readItem_14 : decode cX2_readItem 14 = .ok (.invokevirtual 58, 3) := by decide +kernel
theorem dX2_readItem_17 : decode cX2_readItem 17 = .ok (.return_, 1) := by decide +kernel
theorem dX2_readItem_18 : decode cX2_readItem 18 = .ok (.iload_n 1, 1) := by decide +kernel
theorem dX2_readItem_19 : decode cX2_readItem 19 = .ok (.tableswitch 79 1 6 #[37, 44, 51, 58, 65, 72], 37) := by decide +kernel
theorem dX2_readItem_56 : decode cX2_readItem 56 = .ok (.aload_n 0, 1) := by decide +kernel
theorem dX2_readItem_57 : decode cX2_readItem 57 = .ok (.invokevirtual 61, 3) := by decide +kernel
theorem dX2_readItem_60 : decode cX2_readItem 60 = .ok (.goto 38, 3) := by decide +kernel
theorem dX2_readItem_63 : decode cX2_readItem 63 = .ok (.aload_n 0, 1) := by decide +kernel
theorem dX2_readItem_64 : decode cX2_readItem 64 = .ok (.invokevirtual 64, 3) := by decide +kernel
theorem dX2_readItem_67 : decode cX2_readItem 67 = .ok (.goto 31, 3) := by decide +kernel
theorem dX2_readItem_70 : decode cX2_readItem 70 = .ok (.aload_n 0, 1) := by decide +kernel
theorem dX2_readItem_71 : decode cX2_readItem 71 = .ok (.invokevirtual 67, 3) := by decide +kernel
theorem dX2_readItem_74 : decode cX2_readItem 74 = .ok (.goto 24, 3) := by decide +kernel
theorem dX2_readItem_77 : decode cX2_readItem 77 = .ok (.aload_n 0, 1) := by decide +kernel
theorem dX2_readItem_78 : decode cX2_readItem 78 = .ok (.invokevirtual 70, 3) := by decide +kernel
theorem dX2_readItem_81 : decode cX2_readItem 81 = .ok (.goto 17, 3) := by decide +kernel
theorem dX2_readItem_84 : decode cX2_readItem 84 = .ok (.aload_n 0, 1) := by decide +kernel
theorem dX2_readItem_85 : decode cX2_readItem 85 = .ok (.invokevirtual 73, 3) := by decide +kernel
theorem dX2_readItem_88 : decode cX2_readItem 88 = .ok (.goto 10, 3) := by decide +kernel
theorem dX2_readItem_91 : decode cX2_readItem 91 = .ok (.aload_n 0, 1) := by decide +kernel
theorem dX2_readItem_92 : decode cX2_readItem 92 = .ok (.invokevirtual 76, 3) := by decide +kernel
theorem dX2_readItem_95 : decode cX2_readItem 95 = .ok (.goto 3, 3) := by decide +kernel
theorem dX2_readItem_98 : decode cX2_readItem 98 = .ok (.aload_n 0, 1) := by decide +kernel
theorem dX2_readItem_99 : decode cX2_readItem 99 = .ok (.invokevirtual 79, 3) := by decide +kernel
theorem dX2_readItem_102 : decode cX2_readItem 102 = .ok (.return_, 1) := by decide +kernel
theorem dX2_mayStand_0 : decode cX2_mayStand 0 = .ok (.aload_n 0, 1) := by decide +kernel
theorem dX2_mayStand_1 : decode cX2_mayStand 1 = .ok (.getfield 29, 3) := by decide +kernel
theorem dX2_mayStand_4 : decode cX2_mayStand 4 = .ok (.ifCond .ne 13, 3) := by decide +kernel
theorem dX2_mayStand_7 : decode cX2_mayStand 7 = .ok (.iload_n 1, 1) := by decide +kernel
theorem dX2_mayStand_8 : decode cX2_mayStand 8 = .ok (.ifCond .ne 7, 3) := by decide +kernel
theorem dX2_mayStand_11 : decode cX2_mayStand 11 = .ok (.iconst 1, 1) := by decide +kernel
theorem dX2_mayStand_12 : decode cX2_mayStand 12 = .ok (.goto 4, 3) := by decide +kernel
theorem dX2_mayStand_15 : decode cX2_mayStand 15 = .ok (.iconst 0, 1) := by decide +kernel
theorem dX2_mayStand_16 : decode cX2_mayStand 16 = .ok (.ireturn, 1) := by decide +kernel
theorem dX2_mayStand_17 : decode cX2_mayStand 17 = .ok (.iload_n 1, 1) := by decide +kernel
theorem dX2_mayStand_18 : decode cX2_mayStand 18 = .ok (.tableswitch 78 1 3 #[26, 44, 61], 26) := by decide +kernel
theorem dX2_mayStand_44 : decode cX2_mayStand 44 = .ok (.aload_n 0, 1) := by decide +kernel
theorem dX2_mayStand_45 : decode cX2_mayStand 45 = .ok (.getfield 18, 3) := by decide +kernel
theorem dX2_mayStand_48 : decode cX2_mayStand 48 = .ok (.getfield 82, 3) := by decide +kernel
theorem dX2_mayStand_51 : decode cX2_mayStand 51 = .ok (.bipush 7, 2) := by decide +kernel
theorem dX2_mayStand_53 : decode cX2_mayStand 53 = .ok (.if_icmp .ge 7, 3) := by decide +kernel
theorem dX2_mayStand_56 : decode cX2_mayStand 56 = .ok (.iconst 1, 1) := by decide +kernel
theorem dX2_mayStand_57 : decode cX2_mayStand 57 = .ok (.goto 4, 3) := by decide +kernel
theorem dX2_mayStand_60 : decode cX2_mayStand 60 = .ok (.iconst 0, 1) := by decide +kernel
theorem dX2_mayStand_61 : decode cX2_mayStand 61 = .ok (.ireturn, 1) := by decide +kernel
theorem dX2_mayStand_62 : decode cX2_mayStand 62 = .ok (.aload_n 0, 1) := by decide +kernel
theorem dX2_mayStand_63 : decode cX2_mayStand 63 = .ok (.getfield 18, 3) := by decide +kernel
theorem dX2_mayStand_66 : decode cX2_mayStand 66 = .ok (.getfield 85, 3) := by decide +kernel
theorem dX2_mayStand_69 : decode cX2_mayStand 69 = .ok (.iconst 4, 1) := by decide +kernel
theorem dX2_mayStand_70 : decode cX2_mayStand 70 = .ok (.if_icmp .ge 7, 3) := by decide +kernel
theorem dX2_mayStand_73 : decode cX2_mayStand 73 = .ok (.iconst 1, 1) := by decide +kernel
theorem dX2_mayStand_74 : decode cX2_mayStand 74 = .ok (.goto 4, 3) := by decide +kernel
theorem dX2_mayStand_77 : decode cX2_mayStand 77 = .ok (.iconst 0, 1) := by decide +kernel
theorem dX2_mayStand_78 : decode cX2_mayStand 78 = .ok (.ireturn, 1) := by decide +kernel
theorem dX2_mayStand_79 : decode cX2_mayStand 79 = .ok (.aload_n 0, 1) := by decide +kernel
theorem dX2_mayStand_80 : decode cX2_mayStand 80 = .ok (.getfield 18, 3) := by decide +kernel
theorem dX2_mayStand_83 : decode cX2_mayStand 83 = .ok (.getfield 88, 3) := by decide +kernel
theorem dX2_mayStand_86 : decode cX2_mayStand 86 = .ok (.iconst 3, 1) := by decide +kernel
theorem dX2_mayStand_87 : decode cX2_mayStand 87 = .ok (.if_icmp .ge 7, 3) := by decide +kernel
theorem dX2_mayStand_90 : decode cX2_mayStand 90 = .ok (.iconst 1, 1) := by decide +kernel
theorem dX2_mayStand_91 : decode cX2_mayStand 91 = .ok (.goto 4, 3) := by decide +kernel
theorem dX2_mayStand_94 : decode cX2_mayStand 94 = .ok (.iconst 0, 1) := by decide +kernel
theorem dX2_mayStand_95 : decode cX2_mayStand 95 = .ok (.ireturn, 1) := by decide +kernel
theorem dX2_mayStand_96 : decode cX2_mayStand 96 = .ok (.iload_n 1, 1) := by decide +kernel
theorem dX2_mayStand_97 : decode cX2_mayStand 97 = .ok (.iconst 4, 1) := by decide +kernel
theorem dX2_mayStand_98 : decode cX2_mayStand 98 = .ok (.bipush 6, 2) := by decide +kernel
theorem dX2_mayStand_100 : decode cX2_mayStand 100 = .ok (.invokestatic 91, 3) := by decide +kernel
theorem dX2_mayStand_103 : decode cX2_mayStand 103 = .ok (.ireturn, 1) := by decide +kernel
theorem dX2_readPromise_0 : decode cX2_readPromise 0 = .ok (.aload_n 0, 1) := by decide +kernel
theorem dX2_readPromise_1 : decode cX2_readPromise 1 = .ok (.iconst 0, 1) := by decide +kernel
theorem dX2_readPromise_2 : decode cX2_readPromise 2 = .ok (.iconst 5, 1) := by decide +kernel
theorem dX2_readPromise_3 : decode cX2_readPromise 3 = .ok (.invokevirtual 95, 3) := by decide +kernel
theorem dX2_readPromise_6 : decode cX2_readPromise 6 = .ok (.istore_n 1, 1) := by decide +kernel
theorem dX2_readPromise_7 : decode cX2_readPromise 7 = .ok (.aload_n 0, 1) := by decide +kernel
theorem dX2_readPromise_8 : decode cX2_readPromise 8 = .ok (.iconst 1, 1) := by decide +kernel
theorem dX2_readPromise_9 : decode cX2_readPromise 9 = .ok (.bipush 9, 2) := by decide +kernel
theorem dX2_readPromise_11 : decode cX2_readPromise 11 = .ok (.invokevirtual 95, 3) := by decide +kernel
theorem dX2_readPromise_14 : decode cX2_readPromise 14 = .ok (.istore_n 2, 1) := by decide +kernel
theorem dX2_readPromise_15 : decode cX2_readPromise 15 = .ok (.aload_n 0, 1) := by decide +kernel
theorem dX2_readPromise_16 : decode cX2_readPromise 16 = .ok (.getfield 26, 3) := by decide +kernel
theorem dX2_readPromise_19 : decode cX2_readPromise 19 = .ok (.iconst (-1), 1) := by decide +kernel
theorem dX2_readPromise_20 : decode cX2_readPromise 20 = .ok (.if_icmp .ne 13, 3) := by decide +kernel
theorem dX2_readPromise_23 : decode cX2_readPromise 23 = .ok (.aload_n 0, 1) := by decide +kernel
theorem dX2_readPromise_24 : decode cX2_readPromise 24 = .ok (.getfield 18, 3) := by decide +kernel
theorem dX2_readPromise_27 : decode cX2_readPromise 27 = .ok (.iload_n 1, 1) := by decide +kernel
theorem dX2_readPromise_28 : decode cX2_readPromise 28 = .ok (.iload_n 2, 1) := by decide +kernel
theorem dX2_readPromise_29 : decode cX2_readPromise 29 = .ok (.invokevirtual 99, 3) := by decide +kernel
theorem dX2_readPromise_32 : decode cX2_readPromise 32 = .ok (.pop, 1) := by decide +kernel
theorem dX2_readPromise_33 : decode cX2_readPromise 33 = .ok (.return_, 1) := by decide +kernel
theorem dX2_readHearer_0 : decode cX2_readHearer 0 = .ok (.aload_n 0, 1) := by decide +kernel
theorem dX2_readHearer_1 : decode cX2_readHearer 1 = .ok (.iconst 0, 1) := by decide +kernel
theorem dX2_readHearer_2 : decode cX2_readHearer 2 = .ok (.iconst 5, 1) := by decide +kernel
theorem dX2_readHearer_3 : decode cX2_readHearer 3 = .ok (.invokevirtual 95, 3) := by decide +kernel
theorem dX2_readHearer_6 : decode cX2_readHearer 6 = .ok (.istore_n 1, 1) := by decide +kernel
theorem dX2_readHearer_7 : decode cX2_readHearer 7 = .ok (.aload_n 0, 1) := by decide +kernel
theorem dX2_readHearer_8 : decode cX2_readHearer 8 = .ok (.iconst 1, 1) := by decide +kernel
theorem dX2_readHearer_9 : decode cX2_readHearer 9 = .ok (.bipush 9, 2) := by decide +kernel
theorem dX2_readHearer_11 : decode cX2_readHearer 11 = .ok (.invokevirtual 95, 3) := by decide +kernel
theorem dX2_readHearer_14 : decode cX2_readHearer 14 = .ok (.istore_n 2, 1) := by decide +kernel
theorem dX2_readHearer_15 : decode cX2_readHearer 15 = .ok (.aload_n 0, 1) := by decide +kernel
theorem dX2_readHearer_16 : decode cX2_readHearer 16 = .ok (.getfield 26, 3) := by decide +kernel
theorem dX2_readHearer_19 : decode cX2_readHearer 19 = .ok (.iconst (-1), 1) := by decide +kernel
theorem dX2_readHearer_20 : decode cX2_readHearer 20 = .ok (.if_icmp .ne 13, 3) := by decide +kernel
theorem dX2_readHearer_23 : decode cX2_readHearer 23 = .ok (.aload_n 0, 1) := by decide +kernel
theorem dX2_readHearer_24 : decode cX2_readHearer 24 = .ok (.getfield 18, 3) := by decide +kernel
theorem dX2_readHearer_27 : decode cX2_readHearer 27 = .ok (.iload_n 1, 1) := by decide +kernel
theorem dX2_readHearer_28 : decode cX2_readHearer 28 = .ok (.iload_n 2, 1) := by decide +kernel
theorem dX2_readHearer_29 : decode cX2_readHearer 29 = .ok (.invokevirtual 102, 3) := by decide +kernel
theorem dX2_readHearer_32 : decode cX2_readHearer 32 = .ok (.pop, 1) := by decide +kernel
theorem dX2_readHearer_33 : decode cX2_readHearer 33 = .ok (.return_, 1) := by decide +kernel
theorem dX2_readBuyer_0 : decode cX2_readBuyer 0 = .ok (.aload_n 0, 1) := by decide +kernel
theorem dX2_readBuyer_1 : decode cX2_readBuyer 1 = .ok (.iconst 0, 1) := by decide +kernel
theorem dX2_readBuyer_2 : decode cX2_readBuyer 2 = .ok (.bipush 99, 2) := by decide +kernel
theorem dX2_readBuyer_4 : decode cX2_readBuyer 4 = .ok (.invokevirtual 95, 3) := by decide +kernel
theorem dX2_readBuyer_7 : decode cX2_readBuyer 7 = .ok (.istore_n 1, 1) := by decide +kernel
theorem dX2_readBuyer_8 : decode cX2_readBuyer 8 = .ok (.aload_n 0, 1) := by decide +kernel
theorem dX2_readBuyer_9 : decode cX2_readBuyer 9 = .ok (.getfield 26, 3) := by decide +kernel
theorem dX2_readBuyer_12 : decode cX2_readBuyer 12 = .ok (.iconst (-1), 1) := by decide +kernel
theorem dX2_readBuyer_13 : decode cX2_readBuyer 13 = .ok (.if_icmp .ne 12, 3) := by decide +kernel
theorem dX2_readBuyer_16 : decode cX2_readBuyer 16 = .ok (.aload_n 0, 1) := by decide +kernel
theorem dX2_readBuyer_17 : decode cX2_readBuyer 17 = .ok (.getfield 18, 3) := by decide +kernel
theorem dX2_readBuyer_20 : decode cX2_readBuyer 20 = .ok (.iload_n 1, 1) := by decide +kernel
theorem dX2_readBuyer_21 : decode cX2_readBuyer 21 = .ok (.invokevirtual 105, 3) := by decide +kernel
theorem dX2_readBuyer_24 : decode cX2_readBuyer 24 = .ok (.pop, 1) := by decide +kernel
theorem dX2_readBuyer_25 : decode cX2_readBuyer 25 = .ok (.return_, 1) := by decide +kernel
theorem dX2_readBuy_0 : decode cX2_readBuy 0 = .ok (.aload_n 0, 1) := by decide +kernel
theorem dX2_readBuy_1 : decode cX2_readBuy 1 = .ok (.iconst 0, 1) := by decide +kernel
theorem dX2_readBuy_2 : decode cX2_readBuy 2 = .ok (.aload_n 0, 1) := by decide +kernel
theorem dX2_readBuy_3 : decode cX2_readBuy 3 = .ok (.getfield 18, 3) := by decide +kernel
theorem dX2_readBuy_6 : decode cX2_readBuy 6 = .ok (.getfield 88, 3) := by decide +kernel
theorem dX2_readBuy_9 : decode cX2_readBuy 9 = .ok (.iconst 1, 1) := by decide +kernel
theorem dX2_readBuy_10 : decode cX2_readBuy 10 = .ok (.isub, 1) := by decide +kernel
theorem dX2_readBuy_11 : decode cX2_readBuy 11 = .ok (.invokevirtual 95, 3) := by decide +kernel
theorem dX2_readBuy_14 : decode cX2_readBuy 14 = .ok (.istore_n 1, 1) := by decide +kernel
theorem dX2_readBuy_15 : decode cX2_readBuy 15 = .ok (.aload_n 0, 1) := by decide +kernel
theorem dX2_readBuy_16 : decode cX2_readBuy 16 = .ok (.iconst 0, 1) := by decide +kernel
theorem dX2_readBuy_17 : decode cX2_readBuy 17 = .ok (.aload_n 0, 1) := by decide +kernel
theorem dX2_readBuy_18 : decode cX2_readBuy 18 = .ok (.getfield 18, 3) := by decide +kernel
theorem dX2_readBuy_21 : decode cX2_readBuy 21 = .ok (.getfield 82, 3) := by decide +kernel
theorem dX2_readBuy_24 : decode cX2_readBuy 24 = .ok (.iconst 1, 1) := by decide +kernel
theorem dX2_readBuy_25 : decode cX2_readBuy 25 = .ok (.isub, 1) := by decide +kernel
theorem dX2_readBuy_26 : decode cX2_readBuy 26 = .ok (.invokevirtual 95, 3) := by decide +kernel
theorem dX2_readBuy_29 : decode cX2_readBuy 29 = .ok (.istore_n 2, 1) := by decide +kernel
theorem dX2_readBuy_30 : decode cX2_readBuy 30 = .ok (.aload_n 0, 1) := by decide +kernel
theorem dX2_readBuy_31 : decode cX2_readBuy 31 = .ok (.getfield 18, 3) := by decide +kernel
theorem dX2_readBuy_34 : decode cX2_readBuy 34 = .ok (.iload_n 1, 1) := by decide +kernel
theorem dX2_readBuy_35 : decode cX2_readBuy 35 = .ok (.iload_n 2, 1) := by decide +kernel
theorem dX2_readBuy_36 : decode cX2_readBuy 36 = .ok (.invokevirtual 109, 3) := by decide +kernel
theorem dX2_readBuy_39 : decode cX2_readBuy 39 = .ok (.ifCond .ne 7, 3) := by decide +kernel
theorem dX2_readBuy_42 : decode cX2_readBuy 42 = .ok (.aload_n 0, 1) := by decide +kernel
theorem dX2_readBuy_43 : decode cX2_readBuy 43 = .ok (.invokevirtual 58, 3) := by decide +kernel
theorem dX2_readBuy_46 : decode cX2_readBuy 46 = .ok (.aload_n 0, 1) := by decide +kernel
theorem dX2_readBuy_47 : decode cX2_readBuy 47 = .ok (.getfield 26, 3) := by decide +kernel
theorem dX2_readBuy_50 : decode cX2_readBuy 50 = .ok (.iconst (-1), 1) := by decide +kernel
theorem dX2_readBuy_51 : decode cX2_readBuy 51 = .ok (.if_icmp .ne 12, 3) := by decide +kernel
theorem dX2_readBuy_54 : decode cX2_readBuy 54 = .ok (.aload_n 0, 1) := by decide +kernel
theorem dX2_readBuy_55 : decode cX2_readBuy 55 = .ok (.getfield 18, 3) := by decide +kernel
theorem dX2_readBuy_58 : decode cX2_readBuy 58 = .ok (.iload_n 1, 1) := by decide +kernel
theorem dX2_readBuy_59 : decode cX2_readBuy 59 = .ok (.iload_n 2, 1) := by decide +kernel
theorem dX2_readBuy_60 : decode cX2_readBuy 60 = .ok (.invokevirtual 113, 3) := by decide +kernel
theorem dX2_readBuy_63 : decode cX2_readBuy 63 = .ok (.return_, 1) := by decide +kernel
theorem dX2_readKeep_0 : decode cX2_readKeep 0 = .ok (.aload_n 0, 1) := by decide +kernel
theorem dX2_readKeep_1 : decode cX2_readKeep 1 = .ok (.iconst 0, 1) := by decide +kernel
theorem dX2_readKeep_2 : decode cX2_readKeep 2 = .ok (.aload_n 0, 1) := by decide +kernel
theorem dX2_readKeep_3 : decode cX2_readKeep 3 = .ok (.getfield 18, 3) := by decide +kernel
theorem dX2_readKeep_6 : decode cX2_readKeep 6 = .ok (.getfield 82, 3) := by decide +kernel
theorem dX2_readKeep_9 : decode cX2_readKeep 9 = .ok (.iconst 1, 1) := by decide +kernel
theorem dX2_readKeep_10 : decode cX2_readKeep 10 = .ok (.isub, 1) := by decide +kernel
theorem dX2_readKeep_11 : decode cX2_readKeep 11 = .ok (.invokevirtual 95, 3) := by decide +kernel
theorem dX2_readKeep_14 : decode cX2_readKeep 14 = .ok (.istore_n 1, 1) := by decide +kernel
theorem dX2_readKeep_15 : decode cX2_readKeep 15 = .ok (.aload_n 0, 1) := by decide +kernel
theorem dX2_readKeep_16 : decode cX2_readKeep 16 = .ok (.getfield 18, 3) := by decide +kernel
theorem dX2_readKeep_19 : decode cX2_readKeep 19 = .ok (.iload_n 1, 1) := by decide +kernel
theorem dX2_readKeep_20 : decode cX2_readKeep 20 = .ok (.invokevirtual 117, 3) := by decide +kernel
theorem dX2_readKeep_23 : decode cX2_readKeep 23 = .ok (.ifCond .ne 7, 3) := by decide +kernel
theorem dX2_readKeep_26 : decode cX2_readKeep 26 = .ok (.aload_n 0, 1) := by decide +kernel
theorem dX2_readKeep_27 : decode cX2_readKeep 27 = .ok (.invokevirtual 58, 3) := by decide +kernel
theorem dX2_readKeep_30 : decode cX2_readKeep 30 = .ok (.aload_n 0, 1) := by decide +kernel
theorem dX2_readKeep_31 : decode cX2_readKeep 31 = .ok (.iconst 0, 1) := by decide +kernel
theorem dX2_readKeep_32 : decode cX2_readKeep 32 = .ok (.aload_n 0, 1) := by decide +kernel
theorem dX2_readKeep_33 : decode cX2_readKeep 33 = .ok (.getfield 18, 3) := by decide +kernel
theorem dX2_readKeep_36 : decode cX2_readKeep 36 = .ok (.getfield 85, 3) := by decide +kernel
theorem dX2_readKeep_39 : decode cX2_readKeep 39 = .ok (.iconst 1, 1) := by decide +kernel
theorem dX2_readKeep_40 : decode cX2_readKeep 40 = .ok (.isub, 1) := by decide +kernel
theorem dX2_readKeep_41 : decode cX2_readKeep 41 = .ok (.invokevirtual 95, 3) := by decide +kernel
theorem dX2_readKeep_44 : decode cX2_readKeep 44 = .ok (.istore_n 2, 1) := by decide +kernel
theorem dX2_readKeep_45 : decode cX2_readKeep 45 = .ok (.aload_n 0, 1) := by decide +kernel
theorem dX2_readKeep_46 : decode cX2_readKeep 46 = .ok (.getfield 26, 3) := by decide +kernel
theorem dX2_readKeep_49 : decode cX2_readKeep 49 = .ok (.iconst (-1), 1) := by decide +kernel
theorem dX2_readKeep_50 : decode cX2_readKeep 50 = .ok (.if_icmp .ne 13, 3) := by decide +kernel
theorem dX2_readKeep_53 : decode cX2_readKeep 53 = .ok (.aload_n 0, 1) := by decide +kernel
theorem dX2_readKeep_54 : decode cX2_readKeep 54 = .ok (.getfield 18, 3) := by decide +kernel
theorem dX2_readKeep_57 : decode cX2_readKeep 57 = .ok (.iload_n 1, 1) := by decide +kernel
theorem dX2_readKeep_58 : decode cX2_readKeep 58 = .ok (.iload_n 2, 1) := by decide +kernel
theorem dX2_readKeep_59 : decode cX2_readKeep 59 = .ok (.invokevirtual 120, 3) := by decide +kernel
theorem dX2_readKeep_62 : decode cX2_readKeep 62 = .ok (.pop, 1) := by decide +kernel
theorem dX2_readKeep_63 : decode cX2_readKeep 63 = .ok (.return_, 1) := by decide +kernel
theorem dX2_readDays_0 : decode cX2_readDays 0 = .ok (.aload_n 0, 1) := by decide +kernel
theorem dX2_readDays_1 : decode cX2_readDays 1 = .ok (.iconst 1, 1) := by decide +kernel
theorem dX2_readDays_2 : decode cX2_readDays 2 = .ok (.bipush 99, 2) := by decide +kernel
theorem dX2_readDays_4 : decode cX2_readDays 4 = .ok (.invokevirtual 95, 3) := by decide +kernel
theorem dX2_readDays_7 : decode cX2_readDays 7 = .ok (.istore_n 1, 1) := by decide +kernel
theorem dX2_readDays_8 : decode cX2_readDays 8 = .ok (.aload_n 0, 1) := by decide +kernel
theorem dX2_readDays_9 : decode cX2_readDays 9 = .ok (.getfield 26, 3) := by decide +kernel
theorem dX2_readDays_12 : decode cX2_readDays 12 = .ok (.iconst (-1), 1) := by decide +kernel
theorem dX2_readDays_13 : decode cX2_readDays 13 = .ok (.if_icmp .ne 11, 3) := by decide +kernel
theorem dX2_readDays_16 : decode cX2_readDays 16 = .ok (.aload_n 0, 1) := by decide +kernel
theorem dX2_readDays_17 : decode cX2_readDays 17 = .ok (.getfield 18, 3) := by decide +kernel
theorem dX2_readDays_20 : decode cX2_readDays 20 = .ok (.iload_n 1, 1) := by decide +kernel
theorem dX2_readDays_21 : decode cX2_readDays 21 = .ok (.invokevirtual 123, 3) := by decide +kernel
theorem dX2_readDays_24 : decode cX2_readDays 24 = .ok (.return_, 1) := by decide +kernel
theorem dX2_readNumber_0 : decode cX2_readNumber 0 = .ok (.aload_n 0, 1) := by decide +kernel
theorem dX2_readNumber_1 : decode cX2_readNumber 1 = .ok (.invokevirtual 47, 3) := by decide +kernel
theorem dX2_readNumber_4 : decode cX2_readNumber 4 = .ok (.aload_n 0, 1) := by decide +kernel
theorem dX2_readNumber_5 : decode cX2_readNumber 5 = .ok (.getfield 32, 3) := by decide +kernel
theorem dX2_readNumber_8 : decode cX2_readNumber 8 = .ok (.iconst 2, 1) := by decide +kernel
theorem dX2_readNumber_9 : decode cX2_readNumber 9 = .ok (.if_icmp .ne 15, 3) := by decide +kernel
theorem dX2_readNumber_12 : decode cX2_readNumber 12 = .ok (.aload_n 0, 1) := by decide +kernel
theorem dX2_readNumber_13 : decode cX2_readNumber 13 = .ok (.getfield 41, 3) := by decide +kernel
theorem dX2_readNumber_16 : decode cX2_readNumber 16 = .ok (.iload_n 1, 1) := by decide +kernel
theorem dX2_readNumber_17 : decode cX2_readNumber 17 = .ok (.iload_n 2, 1) := by decide +kernel
theorem dX2_readNumber_18 : decode cX2_readNumber 18 = .ok (.invokestatic 91, 3) := by decide +kernel
theorem dX2_readNumber_21 : decode cX2_readNumber 21 = .ok (.ifCond .ne 7, 3) := by decide +kernel
theorem dX2_readNumber_24 : decode cX2_readNumber 24 = .ok (.aload_n 0, 1) := by decide +kernel
theorem dX2_readNumber_25 : decode cX2_readNumber 25 = .ok (.invokevirtual 58, 3) := by decide +kernel
theorem dX2_readNumber_28 : decode cX2_readNumber 28 = .ok (.aload_n 0, 1) := by decide +kernel
theorem dX2_readNumber_29 : decode cX2_readNumber 29 = .ok (.getfield 41, 3) := by decide +kernel
theorem dX2_readNumber_32 : decode cX2_readNumber 32 = .ok (.ireturn, 1) := by decide +kernel
theorem dX2_readStop_0 : decode cX2_readStop 0 = .ok (.aload_n 0, 1) := by decide +kernel
theorem dX2_readStop_1 : decode cX2_readStop 1 = .ok (.invokevirtual 47, 3) := by decide +kernel
theorem dX2_readStop_4 : decode cX2_readStop 4 = .ok (.aload_n 0, 1) := by decide +kernel
theorem dX2_readStop_5 : decode cX2_readStop 5 = .ok (.getfield 32, 3) := by decide +kernel
theorem dX2_readStop_8 : decode cX2_readStop 8 = .ok (.iconst 3, 1) := by decide +kernel
theorem dX2_readStop_9 : decode cX2_readStop 9 = .ok (.if_icmp .eq 7, 3) := by decide +kernel
theorem dX2_readStop_12 : decode cX2_readStop 12 = .ok (.aload_n 0, 1) := by decide +kernel
theorem dX2_readStop_13 : decode cX2_readStop 13 = .ok (.invokevirtual 58, 3) := by decide +kernel
theorem dX2_readStop_16 : decode cX2_readStop 16 = .ok (.aload_n 0, 1) := by decide +kernel
theorem dX2_readStop_17 : decode cX2_readStop 17 = .ok (.getfield 26, 3) := by decide +kernel
theorem dX2_readStop_20 : decode cX2_readStop 20 = .ok (.iconst (-1), 1) := by decide +kernel
theorem dX2_readStop_21 : decode cX2_readStop 21 = .ok (.if_icmp .ne 13, 3) := by decide +kernel
theorem dX2_readStop_24 : decode cX2_readStop 24 = .ok (.aload_n 0, 1) := by decide +kernel
theorem dX2_readStop_25 : decode cX2_readStop 25 = .ok (.dup, 1) := by decide +kernel
theorem dX2_readStop_26 : decode cX2_readStop 26 = .ok (.getfield 29, 3) := by decide +kernel
theorem dX2_readStop_29 : decode cX2_readStop 29 = .ok (.iconst 1, 1) := by decide +kernel
theorem dX2_readStop_30 : decode cX2_readStop 30 = .ok (.iadd, 1) := by decide +kernel
theorem dX2_readStop_31 : decode cX2_readStop 31 = .ok (.putfield 29, 3) := by decide +kernel
theorem dX2_readStop_34 : decode cX2_readStop 34 = .ok (.return_, 1) := by decide +kernel
theorem dX2_fail_0 : decode cX2_fail 0 = .ok (.aload_n 0, 1) := by decide +kernel
theorem dX2_fail_1 : decode cX2_fail 1 = .ok (.getfield 26, 3) := by decide +kernel
theorem dX2_fail_4 : decode cX2_fail 4 = .ok (.iconst (-1), 1) := by decide +kernel
theorem dX2_fail_5 : decode cX2_fail 5 = .ok (.if_icmp .ne 11, 3) := by decide +kernel
theorem dX2_fail_8 : decode cX2_fail 8 = .ok (.aload_n 0, 1) := by decide +kernel
theorem dX2_fail_9 : decode cX2_fail 9 = .ok (.aload_n 0, 1) := by decide +kernel
theorem dX2_fail_10 : decode cX2_fail 10 = .ok (.getfield 35, 3) := by decide +kernel
theorem dX2_fail_13 : decode cX2_fail 13 = .ok (.putfield 26, 3) := by decide +kernel
theorem dX2_fail_16 : decode cX2_fail 16 = .ok (.return_, 1) := by decide +kernel
theorem dX2_advance_0 : decode cX2_advance 0 = .ok (.aload_n 0, 1) := by decide +kernel
theorem dX2_advance_1 : decode cX2_advance 1 = .ok (.getfield 26, 3) := by decide +kernel
theorem dX2_advance_4 : decode cX2_advance 4 = .ok (.iconst (-1), 1) := by decide +kernel
theorem dX2_advance_5 : decode cX2_advance 5 = .ok (.if_icmp .eq 4, 3) := by decide +kernel
theorem dX2_advance_8 : decode cX2_advance 8 = .ok (.return_, 1) := by decide +kernel
theorem dX2_advance_9 : decode cX2_advance 9 = .ok (.aload_n 0, 1) := by decide +kernel
theorem dX2_advance_10 : decode cX2_advance 10 = .ok (.aload_n 0, 1) := by decide +kernel
theorem dX2_advance_11 : decode cX2_advance 11 = .ok (.aload_n 0, 1) := by decide +kernel
theorem dX2_advance_12 : decode cX2_advance 12 = .ok (.getfield 38, 3) := by decide +kernel
theorem dX2_advance_15 : decode cX2_advance 15 = .ok (.bipush 32, 2) := by decide +kernel
theorem dX2_advance_17 : decode cX2_advance 17 = .ok (.bipush 32, 2) := by decide +kernel
theorem dX2_advance_19 : decode cX2_advance 19 = .ok (.invokevirtual 127, 3) := by decide +kernel
theorem dX2_advance_22 : decode cX2_advance 22 = .ok (.putfield 35, 3) := by decide +kernel
theorem dX2_advance_25 : decode cX2_advance 25 = .ok (.aload_n 0, 1) := by decide +kernel
theorem dX2_advance_26 : decode cX2_advance 26 = .ok (.iconst 0, 1) := by decide +kernel
theorem dX2_advance_27 : decode cX2_advance 27 = .ok (.putfield 41, 3) := by decide +kernel
theorem dX2_advance_30 : decode cX2_advance 30 = .ok (.aload_n 0, 1) := by decide +kernel
theorem dX2_advance_31 : decode cX2_advance 31 = .ok (.getfield 9, 3) := by decide +kernel
theorem dX2_advance_34 : decode cX2_advance 34 = .ok (.aload_n 0, 1) := by decide +kernel
theorem dX2_advance_35 : decode cX2_advance 35 = .ok (.getfield 35, 3) := by decide +kernel
theorem dX2_advance_38 : decode cX2_advance 38 = .ok (.invokestatic 131, 3) := by decide +kernel
theorem dX2_advance_41 : decode cX2_advance 41 = .ok (.istore_n 1, 1) := by decide +kernel
theorem dX2_advance_42 : decode cX2_advance 42 = .ok (.aload_n 0, 1) := by decide +kernel
theorem dX2_advance_43 : decode cX2_advance 43 = .ok (.getfield 35, 3) := by decide +kernel
theorem dX2_advance_46 : decode cX2_advance 46 = .ok (.aload_n 0, 1) := by decide +kernel
theorem dX2_advance_47 : decode cX2_advance 47 = .ok (.getfield 22, 3) := by decide +kernel
theorem dX2_advance_50 : decode cX2_advance 50 = .ok (.if_icmp .lt 19, 3) := by decide +kernel
theorem dX2_advance_53 : decode cX2_advance 53 = .ok (.aload_n 0, 1) := by decide +kernel
theorem dX2_advance_54 : decode cX2_advance 54 = .ok (.iconst 0, 1) := by decide +kernel
theorem dX2_advance_55 : decode cX2_advance 55 = .ok (.putfield 32, 3) := by decide +kernel
theorem dX2_advance_58 : decode cX2_advance 58 = .ok (.aload_n 0, 1) := by decide +kernel
theorem dX2_advance_59 : decode cX2_advance 59 = .ok (.aload_n 0, 1) := by decide +kernel
theorem dX2_advance_60 : decode cX2_advance 60 = .ok (.getfield 35, 3) := by decide +kernel
theorem dX2_advance_63 : decode cX2_advance 63 = .ok (.putfield 38, 3) := by decide +kernel
theorem dX2_advance_66 : decode cX2_advance 66 = .ok (.goto 123, 3) := by decide +kernel
theorem dX2_advance_69 : decode cX2_advance 69 = .ok (.iload_n 1, 1) := by decide +kernel
theorem dX2_advance_70 : decode cX2_advance 70 = .ok (.bipush 97, 2) := by decide +kernel
theorem dX2_advance_72 : decode cX2_advance 72 = .ok (.bipush 122, 2) := by decide +kernel
theorem dX2_advance_74 : decode cX2_advance 74 = .ok (.invokestatic 91, 3) := by decide +kernel
theorem dX2_advance_77 : decode cX2_advance 77 = .ok (.ifCond .eq 27, 3) := by decide +kernel
theorem dX2_advance_80 : decode cX2_advance 80 = .ok (.aload_n 0, 1) := by decide +kernel
theorem dX2_advance_81 : decode cX2_advance 81 = .ok (.iconst 1, 1) := by decide +kernel
theorem dX2_advance_82 : decode cX2_advance 82 = .ok (.putfield 32, 3) := by decide +kernel
theorem dX2_advance_85 : decode cX2_advance 85 = .ok (.aload_n 0, 1) := by decide +kernel
theorem dX2_advance_86 : decode cX2_advance 86 = .ok (.aload_n 0, 1) := by decide +kernel
theorem dX2_advance_87 : decode cX2_advance 87 = .ok (.aload_n 0, 1) := by decide +kernel
theorem dX2_advance_88 : decode cX2_advance 88 = .ok (.getfield 35, 3) := by decide +kernel
theorem dX2_advance_91 : decode cX2_advance 91 = .ok (.bipush 97, 2) := by decide +kernel
theorem dX2_advance_93 : decode cX2_advance 93 = .ok (.bipush 122, 2) := by decide +kernel
theorem dX2_advance_95 : decode cX2_advance 95 = .ok (.invokevirtual 127, 3) := by decide +kernel
theorem dX2_advance_98 : decode cX2_advance 98 = .ok (.putfield 38, 3) := by decide +kernel
theorem dX2_advance_101 : decode cX2_advance 101 = .ok (.goto 88, 3) := by decide +kernel
theorem dX2_advance_104 : decode cX2_advance 104 = .ok (.iload_n 1, 1) := by decide +kernel
theorem dX2_advance_105 : decode cX2_advance 105 = .ok (.bipush 48, 2) := by decide +kernel
theorem dX2_advance_107 : decode cX2_advance 107 = .ok (.bipush 57, 2) := by decide +kernel
theorem dX2_advance_109 : decode cX2_advance 109 = .ok (.invokestatic 91, 3) := by decide +kernel
theorem dX2_advance_112 : decode cX2_advance 112 = .ok (.ifCond .eq 52, 3) := by decide +kernel
theorem dX2_advance_115 : decode cX2_advance 115 = .ok (.aload_n 0, 1) := by decide +kernel
theorem dX2_advance_116 : decode cX2_advance 116 = .ok (.aload_n 0, 1) := by decide +kernel
theorem dX2_advance_117 : decode cX2_advance 117 = .ok (.aload_n 0, 1) := by decide +kernel
theorem dX2_advance_118 : decode cX2_advance 118 = .ok (.getfield 35, 3) := by decide +kernel
theorem dX2_advance_121 : decode cX2_advance 121 = .ok (.bipush 48, 2) := by decide +kernel
theorem dX2_advance_123 : decode cX2_advance 123 = .ok (.bipush 57, 2) := by decide +kernel
theorem dX2_advance_125 : decode cX2_advance 125 = .ok (.invokevirtual 127, 3) := by decide +kernel
theorem dX2_advance_128 : decode cX2_advance 128 = .ok (.putfield 38, 3) := by decide +kernel
theorem dX2_advance_131 : decode cX2_advance 131 = .ok (.aload_n 0, 1) := by decide +kernel
theorem dX2_advance_132 : decode cX2_advance 132 = .ok (.aload_n 0, 1) := by decide +kernel
theorem dX2_advance_133 : decode cX2_advance 133 = .ok (.getfield 38, 3) := by decide +kernel
theorem dX2_advance_136 : decode cX2_advance 136 = .ok (.aload_n 0, 1) := by decide +kernel
theorem dX2_advance_137 : decode cX2_advance 137 = .ok (.getfield 35, 3) := by decide +kernel
theorem dX2_advance_140 : decode cX2_advance 140 = .ok (.isub, 1) := by decide +kernel
theorem dX2_advance_141 : decode cX2_advance 141 = .ok (.iconst 2, 1) := by decide +kernel
theorem dX2_advance_142 : decode cX2_advance 142 = .ok (.if_icmp .gt 7, 3) := by decide +kernel
theorem dX2_advance_145 : decode cX2_advance 145 = .ok (.iconst 2, 1) := by decide +kernel
theorem dX2_advance_146 : decode cX2_advance 146 = .ok (.goto 4, 3) := by decide +kernel
theorem dX2_advance_149 : decode cX2_advance 149 = .ok (.iconst 4, 1) := by decide +kernel
theorem dX2_advance_150 : decode cX2_advance 150 = .ok (.putfield 32, 3) := by decide +kernel
theorem dX2_advance_153 : decode cX2_advance 153 = .ok (.aload_n 0, 1) := by decide +kernel
theorem dX2_advance_154 : decode cX2_advance 154 = .ok (.aload_n 0, 1) := by decide +kernel
theorem dX2_advance_155 : decode cX2_advance 155 = .ok (.invokevirtual 135, 3) := by decide +kernel
theorem dX2_advance_158 : decode cX2_advance 158 = .ok (.putfield 41, 3) := by decide +kernel
theorem dX2_advance_161 : decode cX2_advance 161 = .ok (.goto 28, 3) := by decide +kernel
theorem dX2_advance_164 : decode cX2_advance 164 = .ok (.aload_n 0, 1) := by decide +kernel
theorem dX2_advance_165 : decode cX2_advance 165 = .ok (.iload_n 1, 1) := by decide +kernel
theorem dX2_advance_166 : decode cX2_advance 166 = .ok (.bipush 59, 2) := by decide +kernel
theorem dX2_advance_168 : decode cX2_advance 168 = .ok (.if_icmp .ne 7, 3) := by decide +kernel
theorem dX2_advance_171 : decode cX2_advance 171 = .ok (.iconst 3, 1) := by decide +kernel
theorem dX2_advance_172 : decode cX2_advance 172 = .ok (.goto 4, 3) := by decide +kernel
theorem dX2_advance_175 : decode cX2_advance 175 = .ok (.iconst 4, 1) := by decide +kernel
theorem dX2_advance_176 : decode cX2_advance 176 = .ok (.putfield 32, 3) := by decide +kernel
theorem dX2_advance_179 : decode cX2_advance 179 = .ok (.aload_n 0, 1) := by decide +kernel
theorem dX2_advance_180 : decode cX2_advance 180 = .ok (.aload_n 0, 1) := by decide +kernel
theorem dX2_advance_181 : decode cX2_advance 181 = .ok (.getfield 35, 3) := by decide +kernel
theorem dX2_advance_184 : decode cX2_advance 184 = .ok (.iconst 1, 1) := by decide +kernel
theorem dX2_advance_185 : decode cX2_advance 185 = .ok (.iadd, 1) := by decide +kernel
theorem dX2_advance_186 : decode cX2_advance 186 = .ok (.putfield 38, 3) := by decide +kernel
theorem dX2_advance_189 : decode cX2_advance 189 = .ok (.return_, 1) := by decide +kernel
theorem dX2_endOfRun_0 : decode cX2_endOfRun 0 = .ok (.iload_n 1, 1) := by decide +kernel
theorem dX2_endOfRun_1 : decode cX2_endOfRun 1 = .ok (.istore 4, 2) := by decide +kernel
theorem dX2_endOfRun_3 : decode cX2_endOfRun 3 = .ok (.iload 4, 2) := by decide +kernel
theorem dX2_endOfRun_5 : decode cX2_endOfRun 5 = .ok (.aload_n 0, 1) := by decide +kernel
theorem dX2_endOfRun_6 : decode cX2_endOfRun 6 = .ok (.getfield 22, 3) := by decide +kernel
theorem dX2_endOfRun_9 : decode cX2_endOfRun 9 = .ok (.if_icmp .ge 26, 3) := by decide +kernel
theorem dX2_endOfRun_12 : decode cX2_endOfRun 12 = .ok (.aload_n 0, 1) := by decide +kernel
theorem dX2_endOfRun_13 : decode cX2_endOfRun 13 = .ok (.getfield 9, 3) := by decide +kernel
theorem dX2_endOfRun_16 : decode cX2_endOfRun 16 = .ok (.iload 4, 2) := by decide +kernel
theorem dX2_endOfRun_18 : decode cX2_endOfRun 18 = .ok (.invokestatic 131, 3) := by decide +kernel
theorem dX2_endOfRun_21 : decode cX2_endOfRun 21 = .ok (.iload_n 2, 1) := by decide +kernel
theorem dX2_endOfRun_22 : decode cX2_endOfRun 22 = .ok (.iload_n 3, 1) := by decide +kernel
theorem dX2_endOfRun_23 : decode cX2_endOfRun 23 = .ok (.invokestatic 91, 3) := by decide +kernel
theorem dX2_endOfRun_26 : decode cX2_endOfRun 26 = .ok (.ifCond .eq 9, 3) := by decide +kernel
theorem dX2_endOfRun_29 : decode cX2_endOfRun 29 = .ok (.iinc 4 1, 3) := by decide +kernel
theorem dX2_endOfRun_32 : decode cX2_endOfRun 32 = .ok (.goto (-29), 3) := by decide +kernel
theorem dX2_endOfRun_35 : decode cX2_endOfRun 35 = .ok (.iload 4, 2) := by decide +kernel
theorem dX2_endOfRun_37 : decode cX2_endOfRun 37 = .ok (.ireturn, 1) := by decide +kernel
theorem dX2_numberAtHand_0 : decode cX2_numberAtHand 0 = .ok (.iconst 0, 1) := by decide +kernel
theorem dX2_numberAtHand_1 : decode cX2_numberAtHand 1 = .ok (.istore_n 1, 1) := by decide +kernel
theorem dX2_numberAtHand_2 : decode cX2_numberAtHand 2 = .ok (.aload_n 0, 1) := by decide +kernel
theorem dX2_numberAtHand_3 : decode cX2_numberAtHand 3 = .ok (.getfield 35, 3) := by decide +kernel
theorem dX2_numberAtHand_6 : decode cX2_numberAtHand 6 = .ok (.istore_n 2, 1) := by decide +kernel
theorem dX2_numberAtHand_7 : decode cX2_numberAtHand 7 = .ok (.iload_n 2, 1) := by decide +kernel
theorem dX2_numberAtHand_8 : decode cX2_numberAtHand 8 = .ok (.aload_n 0, 1) := by decide +kernel
theorem dX2_numberAtHand_9 : decode cX2_numberAtHand 9 = .ok (.getfield 38, 3) := by decide +kernel
theorem dX2_numberAtHand_12 : decode cX2_numberAtHand 12 = .ok (.if_icmp .ge 36, 3) := by decide +kernel
theorem dX2_numberAtHand_15 : decode cX2_numberAtHand 15 = .ok (.iload_n 2, 1) := by decide +kernel
theorem dX2_numberAtHand_16 : decode cX2_numberAtHand 16 = .ok (.aload_n 0, 1) := by decide +kernel
theorem dX2_numberAtHand_17 : decode cX2_numberAtHand 17 = .ok (.getfield 35, 3) := by decide +kernel
theorem dX2_numberAtHand_20 : decode cX2_numberAtHand 20 = .ok (.iconst 2, 1) := by decide +kernel
theorem dX2_numberAtHand_21 : decode cX2_numberAtHand 21 = .ok (.iadd, 1) := by decide +kernel
theorem dX2_numberAtHand_22 : decode cX2_numberAtHand 22 = .ok (.if_icmp .ge 26, 3) := by decide +kernel
theorem dX2_numberAtHand_25 : decode cX2_numberAtHand 25 = .ok (.bipush 10, 2) := by decide +kernel
theorem dX2_numberAtHand_27 : decode cX2_numberAtHand 27 = .ok (.iload_n 1, 1) := by decide +kernel
theorem dX2_numberAtHand_28 : decode cX2_numberAtHand 28 = .ok (.imul, 1) := by decide +kernel
theorem dX2_numberAtHand_29 : decode cX2_numberAtHand 29 = .ok (.aload_n 0, 1) := by decide +kernel
theorem dX2_numberAtHand_30 : decode cX2_numberAtHand 30 = .ok (.getfield 9, 3) := by decide +kernel
theorem dX2_numberAtHand_33 : decode cX2_numberAtHand 33 = .ok (.iload_n 2, 1) := by decide +kernel
theorem dX2_numberAtHand_34 : decode cX2_numberAtHand 34 = .ok (.invokestatic 131, 3) := by decide +kernel
theorem dX2_numberAtHand_37 : decode cX2_numberAtHand 37 = .ok (.iadd, 1) := by decide +kernel
theorem dX2_numberAtHand_38 : decode cX2_numberAtHand 38 = .ok (.bipush 48, 2) := by decide +kernel
theorem dX2_numberAtHand_40 : decode cX2_numberAtHand 40 = .ok (.isub, 1) := by decide +kernel
theorem dX2_numberAtHand_41 : decode cX2_numberAtHand 41 = .ok (.istore_n 1, 1) := by decide +kernel
theorem dX2_numberAtHand_42 : decode cX2_numberAtHand 42 = .ok (.iinc 2 1, 3) := by decide +kernel
theorem dX2_numberAtHand_45 : decode cX2_numberAtHand 45 = .ok (.goto (-38), 3) := by decide +kernel
theorem dX2_numberAtHand_48 : decode cX2_numberAtHand 48 = .ok (.iload_n 1, 1) := by decide +kernel
theorem dX2_numberAtHand_49 : decode cX2_numberAtHand 49 = .ok (.ireturn, 1) := by decide +kernel
theorem dX2_wordAtHand_0 : decode cX2_wordAtHand 0 = .ok (.iconst 0, 1) := by decide +kernel
theorem dX2_wordAtHand_1 : decode cX2_wordAtHand 1 = .ok (.istore_n 1, 1) := by decide +kernel
theorem dX2_wordAtHand_2 : decode cX2_wordAtHand 2 = .ok (.iload_n 1, 1) := by decide +kernel
theorem dX2_wordAtHand_3 : decode cX2_wordAtHand 3 = .ok (.bipush 7, 2) := by decide +kernel
theorem dX2_wordAtHand_5 : decode cX2_wordAtHand 5 = .ok (.if_icmp .ge 30, 3) := by decide +kernel
theorem dX2_wordAtHand_8 : decode cX2_wordAtHand 8 = .ok (.aload_n 0, 1) := by decide +kernel
theorem dX2_wordAtHand_9 : decode cX2_wordAtHand 9 = .ok (.getfield 32, 3) := by decide +kernel
theorem dX2_wordAtHand_12 : decode cX2_wordAtHand 12 = .ok (.iconst 1, 1) := by decide +kernel
theorem dX2_wordAtHand_13 : decode cX2_wordAtHand 13 = .ok (.if_icmp .ne 16, 3) := by decide +kernel
theorem dX2_wordAtHand_16 : decode cX2_wordAtHand 16 = .ok (.aload_n 0, 1) := by decide +kernel
theorem dX2_wordAtHand_17 : decode cX2_wordAtHand 17 = .ok (.iload_n 1, 1) := by decide +kernel
theorem dX2_wordAtHand_18 : decode cX2_wordAtHand 18 = .ok (.invokestatic 138, 3) := by decide +kernel
theorem dX2_wordAtHand_21 : decode cX2_wordAtHand 21 = .ok (.invokevirtual 142, 3) := by decide +kernel
theorem dX2_wordAtHand_24 : decode cX2_wordAtHand 24 = .ok (.ifCond .eq 5, 3) := by decide +kernel
theorem dX2_wordAtHand_27 : decode cX2_wordAtHand 27 = .ok (.iload_n 1, 1) := by decide +kernel
theorem dX2_wordAtHand_28 : decode cX2_wordAtHand 28 = .ok (.ireturn, 1) := by decide +kernel
theorem dX2_wordAtHand_29 : decode cX2_wordAtHand 29 = .ok (.iinc 1 1, 3) := by decide +kernel
theorem dX2_wordAtHand_32 : decode cX2_wordAtHand 32 = .ok (.goto (-30), 3) := by decide +kernel
theorem dX2_wordAtHand_35 : decode cX2_wordAtHand 35 = .ok (.iconst (-1), 1) := by decide +kernel
theorem dX2_wordAtHand_36 : decode cX2_wordAtHand 36 = .ok (.ireturn, 1) := by decide +kernel
theorem dX2_spelling_0 : decode cX2_spelling 0 = .ok (.iload_n 0, 1) := by decide +kernel
theorem dX2_spelling_1 : decode cX2_spelling 1 = .ok (.tableswitch 57 0 5 #[39, 42, 45, 48, 51, 54], 39) := by decide +kernel
theorem dX2_spelling_40 : decode cX2_spelling 40 = .ok (.ldc 146, 2) := by decide +kernel
theorem dX2_spelling_42 : decode cX2_spelling 42 = .ok (.areturn, 1) := by decide +kernel
theorem dX2_spelling_43 : decode cX2_spelling 43 = .ok (.ldc 148, 2) := by decide +kernel
theorem dX2_spelling_45 : decode cX2_spelling 45 = .ok (.areturn, 1) := by decide +kernel
theorem dX2_spelling_46 : decode cX2_spelling 46 = .ok (.ldc 150, 2) := by decide +kernel
theorem dX2_spelling_48 : decode cX2_spelling 48 = .ok (.areturn, 1) := by decide +kernel
theorem dX2_spelling_49 : decode cX2_spelling 49 = .ok (.ldc 152, 2) := by decide +kernel
theorem dX2_spelling_51 : decode cX2_spelling 51 = .ok (.areturn, 1) := by decide +kernel
theorem dX2_spelling_52 : decode cX2_spelling 52 = .ok (.ldc 154, 2) := by decide +kernel
theorem dX2_spelling_54 : decode cX2_spelling 54 = .ok (.areturn, 1) := by decide +kernel
theorem dX2_spelling_55 : decode cX2_spelling 55 = .ok (.ldc 156, 2) := by decide +kernel
theorem dX2_spelling_57 : decode cX2_spelling 57 = .ok (.areturn, 1) := by decide +kernel
theorem dX2_spelling_58 : decode cX2_spelling 58 = .ok (.ldc 158, 2) := by decide +kernel
theorem dX2_spelling_60 : decode cX2_spelling 60 = .ok (.areturn, 1) := by decide +kernel
theorem dX2_isAtHand_0 : decode cX2_isAtHand 0 = .ok (.aload_n 1, 1) := by decide +kernel
theorem dX2_isAtHand_1 : decode cX2_isAtHand 1 = .ok (.ifnull 19, 3) := by decide +kernel
theorem dX2_isAtHand_4 : decode cX2_isAtHand 4 = .ok (.aload_n 1, 1) := by decide +kernel
theorem dX2_isAtHand_5 : decode cX2_isAtHand 5 = .ok (.invokevirtual 160, 3) := by decide +kernel
theorem dX2_isAtHand_8 : decode cX2_isAtHand 8 = .ok (.aload_n 0, 1) := by decide +kernel
theorem dX2_isAtHand_9 : decode cX2_isAtHand 9 = .ok (.getfield 38, 3) := by decide +kernel
theorem dX2_isAtHand_12 : decode cX2_isAtHand 12 = .ok (.aload_n 0, 1) := by decide +kernel
theorem dX2_isAtHand_13 : decode cX2_isAtHand 13 = .ok (.getfield 35, 3) := by decide +kernel
theorem dX2_isAtHand_16 : decode cX2_isAtHand 16 = .ok (.isub, 1) := by decide +kernel
theorem dX2_isAtHand_17 : decode cX2_isAtHand 17 = .ok (.if_icmp .eq 5, 3) := by decide +kernel
theorem dX2_isAtHand_20 : decode cX2_isAtHand 20 = .ok (.iconst 0, 1) := by decide +kernel
theorem dX2_isAtHand_21 : decode cX2_isAtHand 21 = .ok (.ireturn, 1) := by decide +kernel
theorem dX2_isAtHand_22 : decode cX2_isAtHand 22 = .ok (.iconst 0, 1) := by decide +kernel
theorem dX2_isAtHand_23 : decode cX2_isAtHand 23 = .ok (.istore_n 2, 1) := by decide +kernel
theorem dX2_isAtHand_24 : decode cX2_isAtHand 24 = .ok (.iload_n 2, 1) := by decide +kernel
theorem dX2_isAtHand_25 : decode cX2_isAtHand 25 = .ok (.aload_n 1, 1) := by decide +kernel
theorem dX2_isAtHand_26 : decode cX2_isAtHand 26 = .ok (.invokevirtual 160, 3) := by decide +kernel
theorem dX2_isAtHand_29 : decode cX2_isAtHand 29 = .ok (.if_icmp .ge 32, 3) := by decide +kernel
theorem dX2_isAtHand_32 : decode cX2_isAtHand 32 = .ok (.aload_n 1, 1) := by decide +kernel
theorem dX2_isAtHand_33 : decode cX2_isAtHand 33 = .ok (.iload_n 2, 1) := by decide +kernel
theorem dX2_isAtHand_34 : decode cX2_isAtHand 34 = .ok (.invokevirtual 164, 3) := by decide +kernel
theorem dX2_isAtHand_37 : decode cX2_isAtHand 37 = .ok (.aload_n 0, 1) := by decide +kernel
theorem dX2_isAtHand_38 : decode cX2_isAtHand 38 = .ok (.getfield 9, 3) := by decide +kernel
theorem dX2_isAtHand_41 : decode cX2_isAtHand 41 = .ok (.aload_n 0, 1) := by decide +kernel
theorem dX2_isAtHand_42 : decode cX2_isAtHand 42 = .ok (.getfield 35, 3) := by decide +kernel
theorem dX2_isAtHand_45 : decode cX2_isAtHand 45 = .ok (.iload_n 2, 1) := by decide +kernel
theorem dX2_isAtHand_46 : decode cX2_isAtHand 46 = .ok (.iadd, 1) := by decide +kernel
theorem dX2_isAtHand_47 : decode cX2_isAtHand 47 = .ok (.invokestatic 131, 3) := by decide +kernel
theorem dX2_isAtHand_50 : decode cX2_isAtHand 50 = .ok (.if_icmp .eq 5, 3) := by decide +kernel
theorem dX2_isAtHand_53 : decode cX2_isAtHand 53 = .ok (.iconst 0, 1) := by decide +kernel
theorem dX2_isAtHand_54 : decode cX2_isAtHand 54 = .ok (.ireturn, 1) := by decide +kernel
theorem dX2_isAtHand_55 : decode cX2_isAtHand 55 = .ok (.iinc 2 1, 3) := by decide +kernel
theorem dX2_isAtHand_58 : decode cX2_isAtHand 58 = .ok (.goto (-34), 3) := by decide +kernel
theorem dX2_isAtHand_61 : decode cX2_isAtHand 61 = .ok (.iconst 1, 1) := by decide +kernel
theorem dX2_isAtHand_62 : decode cX2_isAtHand 62 = .ok (.ireturn, 1) := by decide +kernel
theorem dX3_init_0 : decode cX3_init 0 = .ok (.aload_n 0, 1) := by decide +kernel
theorem dX3_init_1 : decode cX3_init 1 = .ok (.invokespecial 3, 3) := by decide +kernel
theorem dX3_init_4 : decode cX3_init 4 = .ok (.aload_n 0, 1) := by decide +kernel
theorem dX3_init_5 : decode cX3_init 5 = .ok (.new 9, 3) := by decide +kernel
theorem dX3_init_8 : decode cX3_init 8 = .ok (.dup, 1) := by decide +kernel
theorem dX3_init_9 : decode cX3_init 9 = .ok (.invokespecial 11, 3) := by decide +kernel
theorem dX3_init_12 : decode cX3_init 12 = .ok (.putfield 12, 3) := by decide +kernel
theorem dX3_init_15 : decode cX3_init 15 = .ok (.aload_n 0, 1) := by decide +kernel
theorem dX3_init_16 : decode cX3_init 16 = .ok (.new 18, 3) := by decide +kernel
theorem dX3_init_19 : decode cX3_init 19 = .ok (.dup, 1) := by decide +kernel
theorem dX3_init_20 : decode cX3_init 20 = .ok (.invokespecial 20, 3) := by decide +kernel
theorem dX3_init_23 : decode cX3_init 23 = .ok (.putfield 21, 3) := by decide +kernel
theorem dX3_init_26 : decode cX3_init 26 = .ok (.aload_n 0, 1) := by decide +kernel
theorem dX3_init_27 : decode cX3_init 27 = .ok (.new 25, 3) := by decide +kernel
theorem dX3_init_30 : decode cX3_init 30 = .ok (.dup, 1) := by decide +kernel
theorem dX3_init_31 : decode cX3_init 31 = .ok (.iconst 5, 1) := by decide +kernel
theorem dX3_init_32 : decode cX3_init 32 = .ok (.invokespecial 27, 3) := by decide +kernel
theorem dX3_init_35 : decode cX3_init 35 = .ok (.putfield 30, 3) := by decide +kernel
theorem dX3_init_38 : decode cX3_init 38 = .ok (.aload_n 0, 1) := by decide +kernel
theorem dX3_init_39 : decode cX3_init 39 = .ok (.new 25, 3) := by decide +kernel
theorem dX3_init_42 : decode cX3_init 42 = .ok (.dup, 1) := by decide +kernel
theorem dX3_init_43 : decode cX3_init 43 = .ok (.bipush 6, 2) := by decide +kernel
theorem dX3_init_45 : decode cX3_init 45 = .ok (.invokespecial 27, 3) := by decide +kernel
theorem dX3_init_48 : decode cX3_init 48 = .ok (.putfield 34, 3) := by decide +kernel
theorem dX3_init_51 : decode cX3_init 51 = .ok (.aload_n 0, 1) := by decide +kernel
theorem dX3_init_52 : decode cX3_init 52 = .ok (.new 25, 3) := by decide +kernel
theorem dX3_init_55 : decode cX3_init 55 = .ok (.dup, 1) := by decide +kernel
theorem dX3_init_56 : decode cX3_init 56 = .ok (.bipush 6, 2) := by decide +kernel
theorem dX3_init_58 : decode cX3_init 58 = .ok (.invokespecial 27, 3) := by decide +kernel
theorem dX3_init_61 : decode cX3_init 61 = .ok (.putfield 37, 3) := by decide +kernel
theorem dX3_init_64 : decode cX3_init 64 = .ok (.aload_n 0, 1) := by decide +kernel
theorem dX3_init_65 : decode cX3_init 65 = .ok (.iconst 0, 1) := by decide +kernel
theorem dX3_init_66 : decode cX3_init 66 = .ok (.putfield 40, 3) := by decide +kernel
theorem dX3_init_69 : decode cX3_init 69 = .ok (.return_, 1) := by decide +kernel
theorem dX3_empty_0 : decode cX3_empty 0 = .ok (.aload_n 0, 1) := by decide +kernel
theorem dX3_empty_1 : decode cX3_empty 1 = .ok (.getfield 12, 3) := by decide +kernel
theorem dX3_empty_4 : decode cX3_empty 4 = .ok (.invokevirtual 44, 3) := by decide +kernel
theorem dX3_empty_7 : decode cX3_empty 7 = .ok (.aload_n 0, 1) := by decide +kernel
theorem dX3_empty_8 : decode cX3_empty 8 = .ok (.getfield 21, 3) := by decide +kernel
theorem dX3_empty_11 : decode cX3_empty 11 = .ok (.iconst 0, 1) := by decide +kernel
theorem dX3_empty_12 : decode cX3_empty 12 = .ok (.putfield 47, 3) := by decide +kernel
theorem dX3_empty_15 : decode cX3_empty 15 = .ok (.aload_n 0, 1) := by decide +kernel
theorem dX3_empty_16 : decode cX3_empty 16 = .ok (.getfield 30, 3) := by decide +kernel
theorem dX3_empty_19 : decode cX3_empty 19 = .ok (.iconst 0, 1) := by decide +kernel
theorem dX3_empty_20 : decode cX3_empty 20 = .ok (.putfield 51, 3) := by decide +kernel
theorem dX3_empty_23 : decode cX3_empty 23 = .ok (.aload_n 0, 1) := by decide +kernel
theorem dX3_empty_24 : decode cX3_empty 24 = .ok (.getfield 34, 3) := by decide +kernel
theorem dX3_empty_27 : decode cX3_empty 27 = .ok (.iconst 0, 1) := by decide +kernel
theorem dX3_empty_28 : decode cX3_empty 28 = .ok (.putfield 51, 3) := by decide +kernel
theorem dX3_empty_31 : decode cX3_empty 31 = .ok (.aload_n 0, 1) := by decide +kernel
theorem dX3_empty_32 : decode cX3_empty 32 = .ok (.getfield 37, 3) := by decide +kernel
theorem dX3_empty_35 : decode cX3_empty 35 = .ok (.iconst 0, 1) := by decide +kernel
theorem dX3_empty_36 : decode cX3_empty 36 = .ok (.putfield 51, 3) := by decide +kernel
theorem dX3_empty_39 : decode cX3_empty 39 = .ok (.return_, 1) := by decide +kernel
theorem dX3_take_0 : decode cX3_take 0 = .ok (.aload_n 1, 1) := by decide +kernel
theorem dX3_take_1 : decode cX3_take 1 = .ok (.ifnonnull 4, 3) := by decide +kernel
theorem dX3_take_4 : decode cX3_take 4 = .ok (.return_, 1) := by decide +kernel
theorem dX3_take_5 : decode cX3_take 5 = .ok (.aload_n 0, 1) := by decide +kernel
theorem dX3_take_6 : decode cX3_take 6 = .ok (.getfield 12, 3) := by decide +kernel
theorem dX3_take_9 : decode cX3_take 9 = .ok (.aload_n 1, 1) := by decide +kernel
theorem dX3_take_10 : decode cX3_take 10 = .ok (.getfield 12, 3) := by decide +kernel
theorem dX3_take_13 : decode cX3_take 13 = .ok (.invokevirtual 54, 3) := by decide +kernel
theorem dX3_take_16 : decode cX3_take 16 = .ok (.aload_n 0, 1) := by decide +kernel
theorem dX3_take_17 : decode cX3_take 17 = .ok (.getfield 21, 3) := by decide +kernel
theorem dX3_take_20 : decode cX3_take 20 = .ok (.aload_n 1, 1) := by decide +kernel
theorem dX3_take_21 : decode cX3_take 21 = .ok (.getfield 21, 3) := by decide +kernel
theorem dX3_take_24 : decode cX3_take 24 = .ok (.invokevirtual 58, 3) := by decide +kernel
theorem dX3_take_27 : decode cX3_take 27 = .ok (.aload_n 0, 1) := by decide +kernel
theorem dX3_take_28 : decode cX3_take 28 = .ok (.getfield 30, 3) := by decide +kernel
theorem dX3_take_31 : decode cX3_take 31 = .ok (.aload_n 1, 1) := by decide +kernel
theorem dX3_take_32 : decode cX3_take 32 = .ok (.getfield 30, 3) := by decide +kernel
theorem dX3_take_35 : decode cX3_take 35 = .ok (.invokevirtual 61, 3) := by decide +kernel
theorem dX3_take_38 : decode cX3_take 38 = .ok (.aload_n 0, 1) := by decide +kernel
theorem dX3_take_39 : decode cX3_take 39 = .ok (.getfield 34, 3) := by decide +kernel
theorem dX3_take_42 : decode cX3_take 42 = .ok (.aload_n 1, 1) := by decide +kernel
theorem dX3_take_43 : decode cX3_take 43 = .ok (.getfield 34, 3) := by decide +kernel
theorem dX3_take_46 : decode cX3_take 46 = .ok (.invokevirtual 61, 3) := by decide +kernel
theorem dX3_take_49 : decode cX3_take 49 = .ok (.aload_n 0, 1) := by decide +kernel
theorem dX3_take_50 : decode cX3_take 50 = .ok (.getfield 37, 3) := by decide +kernel
theorem dX3_take_53 : decode cX3_take 53 = .ok (.aload_n 1, 1) := by decide +kernel
theorem dX3_take_54 : decode cX3_take 54 = .ok (.getfield 37, 3) := by decide +kernel
theorem dX3_take_57 : decode cX3_take 57 = .ok (.invokevirtual 61, 3) := by decide +kernel
theorem dX3_take_60 : decode cX3_take 60 = .ok (.return_, 1) := by decide +kernel
theorem dX3_hintsOf_0 : decode cX3_hintsOf 0 = .ok (.iload_n 1, 1) := by decide +kernel
theorem dX3_hintsOf_1 : decode cX3_hintsOf 1 = .ok (.lookupswitch 37 #[(1, 27), (2, 32)], 27) := by decide +kernel
theorem dX3_hintsOf_28 : decode cX3_hintsOf 28 = .ok (.aload_n 0, 1) := by decide +kernel
theorem dX3_hintsOf_29 : decode cX3_hintsOf 29 = .ok (.getfield 34, 3) := by decide +kernel
theorem dX3_hintsOf_32 : decode cX3_hintsOf 32 = .ok (.areturn, 1) := by decide +kernel
theorem dX3_hintsOf_33 : decode cX3_hintsOf 33 = .ok (.aload_n 0, 1) := by decide +kernel
theorem dX3_hintsOf_34 : decode cX3_hintsOf 34 = .ok (.getfield 37, 3) := by decide +kernel
theorem dX3_hintsOf_37 : decode cX3_hintsOf 37 = .ok (.areturn, 1) := by decide +kernel
theorem dX3_hintsOf_38 : decode cX3_hintsOf 38 = .ok (.aload_n 0, 1) := by decide +kernel
theorem dX3_hintsOf_39 : decode cX3_hintsOf 39 = .ok (.getfield 30, 3) := by decide +kernel
theorem dX3_hintsOf_42 : decode cX3_hintsOf 42 = .ok (.areturn, 1) := by decide +kernel
theorem dX4_init_0 : decode cX4_init 0 = .ok (.aload_n 0, 1) := by decide +kernel
theorem dX4_init_1 : decode cX4_init 1 = .ok (.invokespecial 3, 3) := by decide +kernel
theorem dX4_init_4 : decode cX4_init 4 = .ok (.aload_n 0, 1) := by decide +kernel
theorem dX4_init_5 : decode cX4_init 5 = .ok (.bipush 7, 2) := by decide +kernel
theorem dX4_init_7 : decode cX4_init 7 = .ok (.newarray .int, 2) := by decide +kernel
theorem dX4_init_9 : decode cX4_init 9 = .ok (.putfield 9, 3) := by decide +kernel
theorem dX4_init_12 : decode cX4_init 12 = .ok (.aload_n 0, 1) := by decide +kernel
theorem dX4_init_13 : decode cX4_init 13 = .ok (.bipush 7, 2) := by decide +kernel
theorem dX4_init_15 : decode cX4_init 15 = .ok (.newarray .int, 2) := by decide +kernel
theorem dX4_init_17 : decode cX4_init 17 = .ok (.putfield 15, 3) := by decide +kernel
theorem dX4_init_20 : decode cX4_init 20 = .ok (.aload_n 0, 1) := by decide +kernel
theorem dX4_init_21 : decode cX4_init 21 = .ok (.bipush 7, 2) := by decide +kernel
theorem dX4_init_23 : decode cX4_init 23 = .ok (.newarray .int, 2) := by decide +kernel
theorem dX4_init_25 : decode cX4_init 25 = .ok (.putfield 18, 3) := by decide +kernel
theorem dX4_init_28 : decode cX4_init 28 = .ok (.aload_n 0, 1) := by decide +kernel
theorem dX4_init_29 : decode cX4_init 29 = .ok (.bipush 7, 2) := by decide +kernel
theorem dX4_init_31 : decode cX4_init 31 = .ok (.newarray .int, 2) := by decide +kernel
theorem dX4_init_33 : decode cX4_init 33 = .ok (.putfield 21, 3) := by decide +kernel
theorem dX4_init_36 : decode cX4_init 36 = .ok (.aload_n 0, 1) := by decide +kernel
theorem dX4_init_37 : decode cX4_init 37 = .ok (.iconst 4, 1) := by decide +kernel
theorem dX4_init_38 : decode cX4_init 38 = .ok (.newarray .int, 2) := by decide +kernel
theorem dX4_init_40 : decode cX4_init 40 = .ok (.putfield 24, 3) := by decide +kernel
theorem dX4_init_43 : decode cX4_init 43 = .ok (.aload_n 0, 1) := by decide +kernel
theorem dX4_init_44 : decode cX4_init 44 = .ok (.iconst 4, 1) := by decide +kernel
theorem dX4_init_45 : decode cX4_init 45 = .ok (.newarray .int, 2) := by decide +kernel
theorem dX4_init_47 : decode cX4_init 47 = .ok (.putfield 27, 3) := by decide +kernel
theorem dX4_init_50 : decode cX4_init 50 = .ok (.aload_n 0, 1) := by decide +kernel
theorem dX4_init_51 : decode cX4_init 51 = .ok (.iconst 3, 1) := by decide +kernel
theorem dX4_init_52 : decode cX4_init 52 = .ok (.newarray .int, 2) := by decide +kernel
theorem dX4_init_54 : decode cX4_init 54 = .ok (.putfield 30, 3) := by decide +kernel
theorem dX4_init_57 : decode cX4_init 57 = .ok (.aload_n 0, 1) := by decide +kernel
theorem dX4_init_58 : decode cX4_init 58 = .ok (.iconst 0, 1) := by decide +kernel
theorem dX4_init_59 : decode cX4_init 59 = .ok (.putfield 33, 3) := by decide +kernel
theorem dX4_init_62 : decode cX4_init 62 = .ok (.aload_n 0, 1) := by decide +kernel
theorem dX4_init_63 : decode cX4_init 63 = .ok (.iconst 0, 1) := by decide +kernel
theorem dX4_init_64 : decode cX4_init 64 = .ok (.putfield 37, 3) := by decide +kernel
theorem dX4_init_67 : decode cX4_init 67 = .ok (.aload_n 0, 1) := by decide +kernel
theorem dX4_init_68 : decode cX4_init 68 = .ok (.iconst 0, 1) := by decide +kernel
theorem dX4_init_69 : decode cX4_init 69 = .ok (.putfield 40, 3) := by decide +kernel
theorem dX4_init_72 : decode cX4_init 72 = .ok (.aload_n 0, 1) := by decide +kernel
theorem dX4_init_73 : decode cX4_init 73 = .ok (.iconst 0, 1) := by decide +kernel
theorem dX4_init_74 : decode cX4_init 74 = .ok (.putfield 43, 3) := by decide +kernel
theorem dX4_init_77 : decode cX4_init 77 = .ok (.aload_n 0, 1) := by decide +kernel
theorem dX4_init_78 : decode cX4_init 78 = .ok (.iconst 0, 1) := by decide +kernel
theorem dX4_init_79 : decode cX4_init 79 = .ok (.putfield 46, 3) := by decide +kernel
theorem dX4_init_82 : decode cX4_init 82 = .ok (.return_, 1) := by decide +kernel
theorem dX4_empty_0 : decode cX4_empty 0 = .ok (.aload_n 0, 1) := by decide +kernel
theorem dX4_empty_1 : decode cX4_empty 1 = .ok (.iconst 0, 1) := by decide +kernel
theorem dX4_empty_2 : decode cX4_empty 2 = .ok (.putfield 33, 3) := by decide +kernel
theorem dX4_empty_5 : decode cX4_empty 5 = .ok (.aload_n 0, 1) := by decide +kernel
theorem dX4_empty_6 : decode cX4_empty 6 = .ok (.iconst 0, 1) := by decide +kernel
theorem dX4_empty_7 : decode cX4_empty 7 = .ok (.putfield 37, 3) := by decide +kernel
theorem dX4_empty_10 : decode cX4_empty 10 = .ok (.aload_n 0, 1) := by decide +kernel
theorem dX4_empty_11 : decode cX4_empty 11 = .ok (.iconst 0, 1) := by decide +kernel
theorem dX4_empty_12 : decode cX4_empty 12 = .ok (.putfield 40, 3) := by decide +kernel
theorem dX4_empty_15 : decode cX4_empty 15 = .ok (.aload_n 0, 1) := by decide +kernel
theorem dX4_empty_16 : decode cX4_empty 16 = .ok (.iconst 0, 1) := by decide +kernel
theorem dX4_empty_17 : decode cX4_empty 17 = .ok (.putfield 43, 3) := by decide +kernel
theorem dX4_empty_20 : decode cX4_empty 20 = .ok (.aload_n 0, 1) := by decide +kernel
theorem dX4_empty_21 : decode cX4_empty 21 = .ok (.iconst 0, 1) := by decide +kernel
theorem dX4_empty_22 : decode cX4_empty 22 = .ok (.putfield 46, 3) := by decide +kernel
theorem dX4_empty_25 : decode cX4_empty 25 = .ok (.return_, 1) := by decide +kernel
theorem dX4_take_0 : decode cX4_take 0 = .ok (.aload_n 1, 1) := by decide +kernel
theorem dX4_take_1 : decode cX4_take 1 = .ok (.ifnonnull 4, 3) := by decide +kernel
theorem dX4_take_4 : decode cX4_take 4 = .ok (.return_, 1) := by decide +kernel
theorem dX4_take_5 : decode cX4_take 5 = .ok (.aload_n 1, 1) := by decide +kernel
theorem dX4_take_6 : decode cX4_take 6 = .ok (.getfield 9, 3) := by decide +kernel
theorem dX4_take_9 : decode cX4_take 9 = .ok (.aload_n 0, 1) := by decide +kernel
theorem dX4_take_10 : decode cX4_take 10 = .ok (.getfield 9, 3) := by decide +kernel
theorem dX4_take_13 : decode cX4_take 13 = .ok (.invokestatic 49, 3) := by decide +kernel
theorem dX4_take_16 : decode cX4_take 16 = .ok (.aload_n 1, 1) := by decide +kernel
theorem dX4_take_17 : decode cX4_take 17 = .ok (.getfield 15, 3) := by decide +kernel
theorem dX4_take_20 : decode cX4_take 20 = .ok (.aload_n 0, 1) := by decide +kernel
theorem dX4_take_21 : decode cX4_take 21 = .ok (.getfield 15, 3) := by decide +kernel
theorem dX4_take_24 : decode cX4_take 24 = .ok (.invokestatic 49, 3) := by decide +kernel
theorem dX4_take_27 : decode cX4_take 27 = .ok (.aload_n 1, 1) := by decide +kernel
theorem dX4_take_28 : decode cX4_take 28 = .ok (.getfield 18, 3) := by decide +kernel
theorem dX4_take_31 : decode cX4_take 31 = .ok (.aload_n 0, 1) := by decide +kernel
theorem dX4_take_32 : decode cX4_take 32 = .ok (.getfield 18, 3) := by decide +kernel
theorem dX4_take_35 : decode cX4_take 35 = .ok (.invokestatic 49, 3) := by decide +kernel
theorem dX4_take_38 : decode cX4_take 38 = .ok (.aload_n 1, 1) := by decide +kernel
theorem dX4_take_39 : decode cX4_take 39 = .ok (.getfield 21, 3) := by decide +kernel
theorem dX4_take_42 : decode cX4_take 42 = .ok (.aload_n 0, 1) := by decide +kernel
theorem dX4_take_43 : decode cX4_take 43 = .ok (.getfield 21, 3) := by decide +kernel
theorem dX4_take_46 : decode cX4_take 46 = .ok (.invokestatic 49, 3) := by decide +kernel
theorem dX4_take_49 : decode cX4_take 49 = .ok (.aload_n 1, 1) := by decide +kernel
theorem dX4_take_50 : decode cX4_take 50 = .ok (.getfield 24, 3) := by decide +kernel
theorem dX4_take_53 : decode cX4_take 53 = .ok (.aload_n 0, 1) := by decide +kernel
theorem dX4_take_54 : decode cX4_take 54 = .ok (.getfield 24, 3) := by decide +kernel
theorem dX4_take_57 : decode cX4_take 57 = .ok (.invokestatic 49, 3) := by decide +kernel
theorem dX4_take_60 : decode cX4_take 60 = .ok (.aload_n 1, 1) := by decide +kernel
theorem dX4_take_61 : decode cX4_take 61 = .ok (.getfield 27, 3) := by decide +kernel
theorem dX4_take_64 : decode cX4_take 64 = .ok (.aload_n 0, 1) := by decide +kernel
theorem dX4_take_65 : decode cX4_take 65 = .ok (.getfield 27, 3) := by decide +kernel
theorem dX4_take_68 : decode cX4_take 68 = .ok (.invokestatic 49, 3) := by decide +kernel
theorem dX4_take_71 : decode cX4_take 71 = .ok (.aload_n 1, 1) := by decide +kernel
theorem dX4_take_72 : decode cX4_take 72 = .ok (.getfield 30, 3) := by decide +kernel
theorem dX4_take_75 : decode cX4_take 75 = .ok (.aload_n 0, 1) := by decide +kernel
theorem dX4_take_76 : decode cX4_take 76 = .ok (.getfield 30, 3) := by decide +kernel
theorem dX4_take_79 : decode cX4_take 79 = .ok (.invokestatic 49, 3) := by decide +kernel
theorem dX4_take_82 : decode cX4_take 82 = .ok (.aload_n 0, 1) := by decide +kernel
theorem dX4_take_83 : decode cX4_take 83 = .ok (.aload_n 1, 1) := by decide +kernel
theorem dX4_take_84 : decode cX4_take 84 = .ok (.getfield 33, 3) := by decide +kernel
theorem dX4_take_87 : decode cX4_take 87 = .ok (.putfield 33, 3) := by decide +kernel
theorem dX4_take_90 : decode cX4_take 90 = .ok (.aload_n 0, 1) := by decide +kernel
theorem dX4_take_91 : decode cX4_take 91 = .ok (.aload_n 1, 1) := by decide +kernel
theorem dX4_take_92 : decode cX4_take 92 = .ok (.getfield 37, 3) := by decide +kernel
theorem dX4_take_95 : decode cX4_take 95 = .ok (.putfield 37, 3) := by decide +kernel
theorem dX4_take_98 : decode cX4_take 98 = .ok (.aload_n 0, 1) := by decide +kernel
theorem dX4_take_99 : decode cX4_take 99 = .ok (.aload_n 1, 1) := by decide +kernel
theorem dX4_take_100 : decode cX4_take 100 = .ok (.getfield 40, 3) := by decide +kernel
theorem dX4_take_103 : decode cX4_take 103 = .ok (.putfield 40, 3) := by decide +kernel
theorem dX4_take_106 : decode cX4_take 106 = .ok (.aload_n 0, 1) := by decide +kernel
theorem dX4_take_107 : decode cX4_take 107 = .ok (.aload_n 1, 1) := by decide +kernel
theorem dX4_take_108 : decode cX4_take 108 = .ok (.getfield 43, 3) := by decide +kernel
theorem dX4_take_111 : decode cX4_take 111 = .ok (.putfield 43, 3) := by decide +kernel
theorem dX4_take_114 : decode cX4_take 114 = .ok (.aload_n 0, 1) := by decide +kernel
theorem dX4_take_115 : decode cX4_take 115 = .ok (.aload_n 1, 1) := by decide +kernel
theorem dX4_take_116 : decode cX4_take 116 = .ok (.getfield 46, 3) := by decide +kernel
theorem dX4_take_119 : decode cX4_take 119 = .ok (.putfield 46, 3) := by decide +kernel
theorem dX4_take_122 : decode cX4_take 122 = .ok (.return_, 1) := by decide +kernel
theorem dX4_addPromise_0 : decode cX4_addPromise 0 = .ok (.aload_n 0, 1) := by decide +kernel
theorem dX4_addPromise_1 : decode cX4_addPromise 1 = .ok (.getfield 9, 3) := by decide +kernel
theorem dX4_addPromise_4 : decode cX4_addPromise 4 = .ok (.aload_n 0, 1) := by decide +kernel
theorem dX4_addPromise_5 : decode cX4_addPromise 5 = .ok (.getfield 33, 3) := by decide +kernel
theorem dX4_addPromise_8 : decode cX4_addPromise 8 = .ok (.iload_n 1, 1) := by decide +kernel
theorem dX4_addPromise_9 : decode cX4_addPromise 9 = .ok (.invokestatic 53, 3) := by decide +kernel
theorem dX4_addPromise_12 : decode cX4_addPromise 12 = .ok (.aload_n 0, 1) := by decide +kernel
theorem dX4_addPromise_13 : decode cX4_addPromise 13 = .ok (.getfield 15, 3) := by decide +kernel
theorem dX4_addPromise_16 : decode cX4_addPromise 16 = .ok (.aload_n 0, 1) := by decide +kernel
theorem dX4_addPromise_17 : decode cX4_addPromise 17 = .ok (.getfield 33, 3) := by decide +kernel
theorem dX4_addPromise_20 : decode cX4_addPromise 20 = .ok (.iload_n 2, 1) := by decide +kernel
theorem dX4_addPromise_21 : decode cX4_addPromise 21 = .ok (.invokestatic 53, 3) := by decide +kernel
theorem dX4_addPromise_24 : decode cX4_addPromise 24 = .ok (.aload_n 0, 1) := by decide +kernel
theorem dX4_addPromise_25 : decode cX4_addPromise 25 = .ok (.getfield 18, 3) := by decide +kernel
theorem dX4_addPromise_28 : decode cX4_addPromise 28 = .ok (.aload_n 0, 1) := by decide +kernel
theorem dX4_addPromise_29 : decode cX4_addPromise 29 = .ok (.getfield 33, 3) := by decide +kernel
theorem dX4_addPromise_32 : decode cX4_addPromise 32 = .ok (.iconst 0, 1) := by decide +kernel
theorem dX4_addPromise_33 : decode cX4_addPromise 33 = .ok (.invokestatic 53, 3) := by decide +kernel
theorem dX4_addPromise_36 : decode cX4_addPromise 36 = .ok (.aload_n 0, 1) := by decide +kernel
theorem dX4_addPromise_37 : decode cX4_addPromise 37 = .ok (.getfield 21, 3) := by decide +kernel
theorem dX4_addPromise_40 : decode cX4_addPromise 40 = .ok (.aload_n 0, 1) := by decide +kernel
theorem dX4_addPromise_41 : decode cX4_addPromise 41 = .ok (.getfield 33, 3) := by decide +kernel
theorem dX4_addPromise_44 : decode cX4_addPromise 44 = .ok (.iconst 0, 1) := by decide +kernel
theorem dX4_addPromise_45 : decode cX4_addPromise 45 = .ok (.invokestatic 53, 3) := by decide +kernel
theorem dX4_addPromise_48 : decode cX4_addPromise 48 = .ok (.aload_n 0, 1) := by decide +kernel
theorem dX4_addPromise_49 : decode cX4_addPromise 49 = .ok (.dup, 1) := by decide +kernel
theorem dX4_addPromise_50 : decode cX4_addPromise 50 = .ok (.getfield 33, 3) := by decide +kernel
theorem dX4_addPromise_53 : decode cX4_addPromise 53 = .ok (.iconst 1, 1) := by decide +kernel
theorem dX4_addPromise_54 : decode cX4_addPromise 54 = .ok (.iadd, 1) := by decide +kernel
theorem dX4_addPromise_55 : decode cX4_addPromise 55 = .ok (.putfield 33, 3) := by decide +kernel
theorem dX4_addPromise_58 : decode cX4_addPromise 58 = .ok (.aload_n 0, 1) := by decide +kernel
theorem dX4_addPromise_59 : decode cX4_addPromise 59 = .ok (.getfield 33, 3) := by decide +kernel
theorem dX4_addPromise_62 : decode cX4_addPromise 62 = .ok (.iconst 1, 1) := by decide +kernel
theorem dX4_addPromise_63 : decode cX4_addPromise 63 = .ok (.isub, 1) := by decide +kernel
theorem dX4_addPromise_64 : decode cX4_addPromise 64 = .ok (.ireturn, 1) := by decide +kernel
theorem dX4_addHearer_0 : decode cX4_addHearer 0 = .ok (.aload_n 0, 1) := by decide +kernel
theorem dX4_addHearer_1 : decode cX4_addHearer 1 = .ok (.getfield 24, 3) := by decide +kernel
theorem dX4_addHearer_4 : decode cX4_addHearer 4 = .ok (.aload_n 0, 1) := by decide +kernel
theorem dX4_addHearer_5 : decode cX4_addHearer 5 = .ok (.getfield 37, 3) := by decide +kernel
theorem dX4_addHearer_8 : decode cX4_addHearer 8 = .ok (.iload_n 1, 1) := by decide +kernel
theorem dX4_addHearer_9 : decode cX4_addHearer 9 = .ok (.invokestatic 53, 3) := by decide +kernel
theorem dX4_addHearer_12 : decode cX4_addHearer 12 = .ok (.aload_n 0, 1) := by decide +kernel
theorem dX4_addHearer_13 : decode cX4_addHearer 13 = .ok (.getfield 27, 3) := by decide +kernel
theorem dX4_addHearer_16 : decode cX4_addHearer 16 = .ok (.aload_n 0, 1) := by decide +kernel
theorem dX4_addHearer_17 : decode cX4_addHearer 17 = .ok (.getfield 37, 3) := by decide +kernel
theorem dX4_addHearer_20 : decode cX4_addHearer 20 = .ok (.iload_n 2, 1) := by decide +kernel
theorem dX4_addHearer_21 : decode cX4_addHearer 21 = .ok (.invokestatic 53, 3) := by decide +kernel
theorem dX4_addHearer_24 : decode cX4_addHearer 24 = .ok (.aload_n 0, 1) := by decide +kernel
theorem dX4_addHearer_25 : decode cX4_addHearer 25 = .ok (.dup, 1) := by decide +kernel
theorem dX4_addHearer_26 : decode cX4_addHearer 26 = .ok (.getfield 37, 3) := by decide +kernel
theorem dX4_addHearer_29 : decode cX4_addHearer 29 = .ok (.iconst 1, 1) := by decide +kernel
theorem dX4_addHearer_30 : decode cX4_addHearer 30 = .ok (.iadd, 1) := by decide +kernel
theorem dX4_addHearer_31 : decode cX4_addHearer 31 = .ok (.putfield 37, 3) := by decide +kernel
theorem dX4_addHearer_34 : decode cX4_addHearer 34 = .ok (.aload_n 0, 1) := by decide +kernel
theorem dX4_addHearer_35 : decode cX4_addHearer 35 = .ok (.getfield 37, 3) := by decide +kernel
theorem dX4_addHearer_38 : decode cX4_addHearer 38 = .ok (.iconst 1, 1) := by decide +kernel
theorem dX4_addHearer_39 : decode cX4_addHearer 39 = .ok (.isub, 1) := by decide +kernel
theorem dX4_addHearer_40 : decode cX4_addHearer 40 = .ok (.ireturn, 1) := by decide +kernel
theorem dX4_addBuyer_0 : decode cX4_addBuyer 0 = .ok (.aload_n 0, 1) := by decide +kernel
theorem dX4_addBuyer_1 : decode cX4_addBuyer 1 = .ok (.getfield 30, 3) := by decide +kernel
theorem dX4_addBuyer_4 : decode cX4_addBuyer 4 = .ok (.aload_n 0, 1) := by decide +kernel
theorem dX4_addBuyer_5 : decode cX4_addBuyer 5 = .ok (.getfield 40, 3) := by decide +kernel
theorem dX4_addBuyer_8 : decode cX4_addBuyer 8 = .ok (.iload_n 1, 1) := by decide +kernel
theorem dX4_addBuyer_9 : decode cX4_addBuyer 9 = .ok (.invokestatic 53, 3) := by decide +kernel
theorem dX4_addBuyer_12 : decode cX4_addBuyer 12 = .ok (.aload_n 0, 1) := by decide +kernel
theorem dX4_addBuyer_13 : decode cX4_addBuyer 13 = .ok (.dup, 1) := by decide +kernel
theorem dX4_addBuyer_14 : decode cX4_addBuyer 14 = .ok (.getfield 40, 3) := by decide +kernel
theorem dX4_addBuyer_17 : decode cX4_addBuyer 17 = .ok (.iconst 1, 1) := by decide +kernel
theorem dX4_addBuyer_18 : decode cX4_addBuyer 18 = .ok (.iadd, 1) := by decide +kernel
theorem dX4_addBuyer_19 : decode cX4_addBuyer 19 = .ok (.putfield 40, 3) := by decide +kernel
theorem dX4_addBuyer_22 : decode cX4_addBuyer 22 = .ok (.aload_n 0, 1) := by decide +kernel
theorem dX4_addBuyer_23 : decode cX4_addBuyer 23 = .ok (.getfield 40, 3) := by decide +kernel
theorem dX4_addBuyer_26 : decode cX4_addBuyer 26 = .ok (.iconst 1, 1) := by decide +kernel
theorem dX4_addBuyer_27 : decode cX4_addBuyer 27 = .ok (.isub, 1) := by decide +kernel
theorem dX4_addBuyer_28 : decode cX4_addBuyer 28 = .ok (.ireturn, 1) := by decide +kernel
theorem dX4_hasPromise_0 : decode cX4_hasPromise 0 = .ok (.iload_n 1, 1) := by decide +kernel
theorem dX4_hasPromise_1 : decode cX4_hasPromise 1 = .ok (.iconst 0, 1) := by decide +kernel
theorem dX4_hasPromise_2 : decode cX4_hasPromise 2 = .ok (.aload_n 0, 1) := by decide +kernel
theorem dX4_hasPromise_3 : decode cX4_hasPromise 3 = .ok (.getfield 33, 3) := by decide +kernel
theorem dX4_hasPromise_6 : decode cX4_hasPromise 6 = .ok (.iconst 1, 1) := by decide +kernel
theorem dX4_hasPromise_7 : decode cX4_hasPromise 7 = .ok (.isub, 1) := by decide +kernel
theorem dX4_hasPromise_8 : decode cX4_hasPromise 8 = .ok (.invokestatic 57, 3) := by decide +kernel
theorem dX4_hasPromise_11 : decode cX4_hasPromise 11 = .ok (.ireturn, 1) := by decide +kernel
theorem dX4_hasHearer_0 : decode cX4_hasHearer 0 = .ok (.iload_n 1, 1) := by decide +kernel
theorem dX4_hasHearer_1 : decode cX4_hasHearer 1 = .ok (.iconst 0, 1) := by decide +kernel
theorem dX4_hasHearer_2 : decode cX4_hasHearer 2 = .ok (.aload_n 0, 1) := by decide +kernel
theorem dX4_hasHearer_3 : decode cX4_hasHearer 3 = .ok (.getfield 37, 3) := by decide +kernel
theorem dX4_hasHearer_6 : decode cX4_hasHearer 6 = .ok (.iconst 1, 1) := by decide +kernel
theorem dX4_hasHearer_7 : decode cX4_hasHearer 7 = .ok (.isub, 1) := by decide +kernel
theorem dX4_hasHearer_8 : decode cX4_hasHearer 8 = .ok (.invokestatic 57, 3) := by decide +kernel
theorem dX4_hasHearer_11 : decode cX4_hasHearer 11 = .ok (.ireturn, 1) := by decide +kernel
theorem dX4_hasBuyer_0 : decode cX4_hasBuyer 0 = .ok (.iload_n 1, 1) := by decide +kernel
theorem dX4_hasBuyer_1 : decode cX4_hasBuyer 1 = .ok (.iconst 0, 1) := by decide +kernel
theorem dX4_hasBuyer_2 : decode cX4_hasBuyer 2 = .ok (.aload_n 0, 1) := by decide +kernel
theorem dX4_hasBuyer_3 : decode cX4_hasBuyer 3 = .ok (.getfield 40, 3) := by decide +kernel
theorem dX4_hasBuyer_6 : decode cX4_hasBuyer 6 = .ok (.iconst 1, 1) := by decide +kernel
theorem dX4_hasBuyer_7 : decode cX4_hasBuyer 7 = .ok (.isub, 1) := by decide +kernel
theorem dX4_hasBuyer_8 : decode cX4_hasBuyer 8 = .ok (.invokestatic 57, 3) := by decide +kernel
theorem dX4_hasBuyer_11 : decode cX4_hasBuyer 11 = .ok (.ireturn, 1) := by decide +kernel
theorem dX4_isInWindow_0 : decode cX4_isInWindow 0 = .ok (.aload_n 0, 1) := by decide +kernel
theorem dX4_isInWindow_1 : decode cX4_isInWindow 1 = .ok (.iload_n 1, 1) := by decide +kernel
theorem dX4_isInWindow_2 : decode cX4_isInWindow 2 = .ok (.invokevirtual 61, 3) := by decide +kernel
theorem dX4_isInWindow_5 : decode cX4_isInWindow 5 = .ok (.ifCond .eq 18, 3) := by decide +kernel
theorem dX4_isInWindow_8 : decode cX4_isInWindow 8 = .ok (.aload_n 0, 1) := by decide +kernel
theorem dX4_isInWindow_9 : decode cX4_isInWindow 9 = .ok (.getfield 21, 3) := by decide +kernel
theorem dX4_isInWindow_12 : decode cX4_isInWindow 12 = .ok (.iload_n 1, 1) := by decide +kernel
theorem dX4_isInWindow_13 : decode cX4_isInWindow 13 = .ok (.invokestatic 65, 3) := by decide +kernel
theorem dX4_isInWindow_16 : decode cX4_isInWindow 16 = .ok (.ifCond .ne 7, 3) := by decide +kernel
theorem dX4_isInWindow_19 : decode cX4_isInWindow 19 = .ok (.iconst 1, 1) := by decide +kernel
theorem dX4_isInWindow_20 : decode cX4_isInWindow 20 = .ok (.goto 4, 3) := by decide +kernel
theorem dX4_isInWindow_23 : decode cX4_isInWindow 23 = .ok (.iconst 0, 1) := by decide +kernel
theorem dX4_isInWindow_24 : decode cX4_isInWindow 24 = .ok (.ireturn, 1) := by decide +kernel
theorem dX4_isHeld_0 : decode cX4_isHeld 0 = .ok (.aload_n 0, 1) := by decide +kernel
theorem dX4_isHeld_1 : decode cX4_isHeld 1 = .ok (.iload_n 1, 1) := by decide +kernel
theorem dX4_isHeld_2 : decode cX4_isHeld 2 = .ok (.invokevirtual 61, 3) := by decide +kernel
theorem dX4_isHeld_5 : decode cX4_isHeld 5 = .ok (.ifCond .eq 23, 3) := by decide +kernel
theorem dX4_isHeld_8 : decode cX4_isHeld 8 = .ok (.aload_n 0, 1) := by decide +kernel
theorem dX4_isHeld_9 : decode cX4_isHeld 9 = .ok (.getfield 21, 3) := by decide +kernel
theorem dX4_isHeld_12 : decode cX4_isHeld 12 = .ok (.iload_n 1, 1) := by decide +kernel
theorem dX4_isHeld_13 : decode cX4_isHeld 13 = .ok (.invokestatic 65, 3) := by decide +kernel
theorem dX4_isHeld_16 : decode cX4_isHeld 16 = .ok (.iconst 1, 1) := by decide +kernel
theorem dX4_isHeld_17 : decode cX4_isHeld 17 = .ok (.iconst 3, 1) := by decide +kernel
theorem dX4_isHeld_18 : decode cX4_isHeld 18 = .ok (.invokestatic 57, 3) := by decide +kernel
theorem dX4_isHeld_21 : decode cX4_isHeld 21 = .ok (.ifCond .eq 7, 3) := by decide +kernel
theorem dX4_isHeld_24 : decode cX4_isHeld 24 = .ok (.iconst 1, 1) := by decide +kernel
theorem dX4_isHeld_25 : decode cX4_isHeld 25 = .ok (.goto 4, 3) := by decide +kernel
theorem dX4_isHeld_28 : decode cX4_isHeld 28 = .ok (.iconst 0, 1) := by decide +kernel
theorem dX4_isHeld_29 : decode cX4_isHeld 29 = .ok (.ireturn, 1) := by decide +kernel
theorem dX4_goodBehind_0 : decode cX4_goodBehind 0 = .ok (.aload_n 0, 1) := by decide +kernel
theorem dX4_goodBehind_1 : decode cX4_goodBehind 1 = .ok (.getfield 21, 3) := by decide +kernel
theorem dX4_goodBehind_4 : decode cX4_goodBehind 4 = .ok (.iload_n 1, 1) := by decide +kernel
theorem dX4_goodBehind_5 : decode cX4_goodBehind 5 = .ok (.invokestatic 65, 3) := by decide +kernel
theorem dX4_goodBehind_8 : decode cX4_goodBehind 8 = .ok (.ifCond .ne 7, 3) := by decide +kernel
theorem dX4_goodBehind_11 : decode cX4_goodBehind 11 = .ok (.iconst 1, 1) := by decide +kernel
theorem dX4_goodBehind_12 : decode cX4_goodBehind 12 = .ok (.goto 4, 3) := by decide +kernel
theorem dX4_goodBehind_15 : decode cX4_goodBehind 15 = .ok (.iconst 0, 1) := by decide +kernel
theorem dX4_goodBehind_16 : decode cX4_goodBehind 16 = .ok (.istore_n 3, 1) := by decide +kernel
theorem dX4_goodBehind_17 : decode cX4_goodBehind 17 = .ok (.aload_n 0, 1) := by decide +kernel
theorem dX4_goodBehind_18 : decode cX4_goodBehind 18 = .ok (.getfield 9, 3) := by decide +kernel
theorem dX4_goodBehind_21 : decode cX4_goodBehind 21 = .ok (.iload_n 1, 1) := by decide +kernel
theorem dX4_goodBehind_22 : decode cX4_goodBehind 22 = .ok (.invokestatic 65, 3) := by decide +kernel
theorem dX4_goodBehind_25 : decode cX4_goodBehind 25 = .ok (.aload_n 0, 1) := by decide +kernel
theorem dX4_goodBehind_26 : decode cX4_goodBehind 26 = .ok (.getfield 15, 3) := by decide +kernel
theorem dX4_goodBehind_29 : decode cX4_goodBehind 29 = .ok (.iload_n 1, 1) := by decide +kernel
theorem dX4_goodBehind_30 : decode cX4_goodBehind 30 = .ok (.invokestatic 65, 3) := by decide +kernel
theorem dX4_goodBehind_33 : decode cX4_goodBehind 33 = .ok (.aload_n 0, 1) := by decide +kernel
theorem dX4_goodBehind_34 : decode cX4_goodBehind 34 = .ok (.getfield 18, 3) := by decide +kernel
theorem dX4_goodBehind_37 : decode cX4_goodBehind 37 = .ok (.iload_n 1, 1) := by decide +kernel
theorem dX4_goodBehind_38 : decode cX4_goodBehind 38 = .ok (.invokestatic 65, 3) := by decide +kernel
theorem dX4_goodBehind_41 : decode cX4_goodBehind 41 = .ok (.iload_n 3, 1) := by decide +kernel
theorem dX4_goodBehind_42 : decode cX4_goodBehind 42 = .ok (.ifCond .eq 7, 3) := by decide +kernel
theorem dX4_goodBehind_45 : decode cX4_goodBehind 45 = .ok (.iload_n 2, 1) := by decide +kernel
theorem dX4_goodBehind_46 : decode cX4_goodBehind 46 = .ok (.goto 4, 3) := by decide +kernel
theorem dX4_goodBehind_49 : decode cX4_goodBehind 49 = .ok (.iconst 0, 1) := by decide +kernel
theorem dX4_goodBehind_50 : decode cX4_goodBehind 50 = .ok (.iadd, 1) := by decide +kernel
theorem dX4_goodBehind_51 : decode cX4_goodBehind 51 = .ok (.invokestatic 69, 3) := by decide +kernel
theorem dX4_goodBehind_54 : decode cX4_goodBehind 54 = .ok (.ireturn, 1) := by decide +kernel
theorem dX4_priceOf_0 : decode cX4_priceOf 0 = .ok (.iconst 2, 1) := by decide +kernel
theorem dX4_priceOf_1 : decode cX4_priceOf 1 = .ok (.aload_n 0, 1) := by decide +kernel
theorem dX4_priceOf_2 : decode cX4_priceOf 2 = .ok (.iload_n 1, 1) := by decide +kernel
theorem dX4_priceOf_3 : decode cX4_priceOf 3 = .ok (.iconst 0, 1) := by decide +kernel
theorem dX4_priceOf_4 : decode cX4_priceOf 4 = .ok (.invokevirtual 73, 3) := by decide +kernel
theorem dX4_priceOf_7 : decode cX4_priceOf 7 = .ok (.imul, 1) := by decide +kernel
theorem dX4_priceOf_8 : decode cX4_priceOf 8 = .ok (.iconst 1, 1) := by decide +kernel
theorem dX4_priceOf_9 : decode cX4_priceOf 9 = .ok (.iadd, 1) := by decide +kernel
theorem dX4_priceOf_10 : decode cX4_priceOf 10 = .ok (.ireturn, 1) := by decide +kernel
theorem dX4_joyTo_0 : decode cX4_joyTo 0 = .ok (.aload_n 0, 1) := by decide +kernel
theorem dX4_joyTo_1 : decode cX4_joyTo 1 = .ok (.getfield 24, 3) := by decide +kernel
theorem dX4_joyTo_4 : decode cX4_joyTo 4 = .ok (.iload_n 2, 1) := by decide +kernel
theorem dX4_joyTo_5 : decode cX4_joyTo 5 = .ok (.invokestatic 65, 3) := by decide +kernel
theorem dX4_joyTo_8 : decode cX4_joyTo 8 = .ok (.aload_n 0, 1) := by decide +kernel
theorem dX4_joyTo_9 : decode cX4_joyTo 9 = .ok (.getfield 27, 3) := by decide +kernel
theorem dX4_joyTo_12 : decode cX4_joyTo 12 = .ok (.iload_n 2, 1) := by decide +kernel
theorem dX4_joyTo_13 : decode cX4_joyTo 13 = .ok (.invokestatic 65, 3) := by decide +kernel
theorem dX4_joyTo_16 : decode cX4_joyTo 16 = .ok (.aload_n 0, 1) := by decide +kernel
theorem dX4_joyTo_17 : decode cX4_joyTo 17 = .ok (.iload_n 1, 1) := by decide +kernel
theorem dX4_joyTo_18 : decode cX4_joyTo 18 = .ok (.iconst 0, 1) := by decide +kernel
theorem dX4_joyTo_19 : decode cX4_joyTo 19 = .ok (.invokevirtual 73, 3) := by decide +kernel
theorem dX4_joyTo_22 : decode cX4_joyTo 22 = .ok (.invokestatic 77, 3) := by decide +kernel
theorem dX4_joyTo_25 : decode cX4_joyTo 25 = .ok (.ireturn, 1) := by decide +kernel
theorem dX4_passDays_0 : decode cX4_passDays 0 = .ok (.iconst 0, 1) := by decide +kernel
theorem dX4_passDays_1 : decode cX4_passDays 1 = .ok (.istore_n 2, 1) := by decide +kernel
theorem dX4_passDays_2 : decode cX4_passDays 2 = .ok (.iload_n 2, 1) := by decide +kernel
theorem dX4_passDays_3 : decode cX4_passDays 3 = .ok (.aload_n 0, 1) := by decide +kernel
theorem dX4_passDays_4 : decode cX4_passDays 4 = .ok (.getfield 33, 3) := by decide +kernel
theorem dX4_passDays_7 : decode cX4_passDays 7 = .ok (.if_icmp .ge 35, 3) := by decide +kernel
theorem dX4_passDays_10 : decode cX4_passDays 10 = .ok (.aload_n 0, 1) := by decide +kernel
theorem dX4_passDays_11 : decode cX4_passDays 11 = .ok (.iload_n 2, 1) := by decide +kernel
theorem dX4_passDays_12 : decode cX4_passDays 12 = .ok (.invokevirtual 80, 3) := by decide +kernel
theorem dX4_passDays_15 : decode cX4_passDays 15 = .ok (.ifCond .eq 21, 3) := by decide +kernel
theorem dX4_passDays_18 : decode cX4_passDays 18 = .ok (.aload_n 0, 1) := by decide +kernel
theorem dX4_passDays_19 : decode cX4_passDays 19 = .ok (.getfield 18, 3) := by decide +kernel
theorem dX4_passDays_22 : decode cX4_passDays 22 = .ok (.iload_n 2, 1) := by decide +kernel
theorem dX4_passDays_23 : decode cX4_passDays 23 = .ok (.aload_n 0, 1) := by decide +kernel
theorem dX4_passDays_24 : decode cX4_passDays 24 = .ok (.getfield 18, 3) := by decide +kernel
theorem dX4_passDays_27 : decode cX4_passDays 27 = .ok (.iload_n 2, 1) := by decide +kernel
theorem dX4_passDays_28 : decode cX4_passDays 28 = .ok (.invokestatic 65, 3) := by decide +kernel
theorem dX4_passDays_31 : decode cX4_passDays 31 = .ok (.iload_n 1, 1) := by decide +kernel
theorem dX4_passDays_32 : decode cX4_passDays 32 = .ok (.iadd, 1) := by decide +kernel
theorem dX4_passDays_33 : decode cX4_passDays 33 = .ok (.invokestatic 53, 3) := by decide +kernel
theorem dX4_passDays_36 : decode cX4_passDays 36 = .ok (.iinc 2 1, 3) := by decide +kernel
theorem dX4_passDays_39 : decode cX4_passDays 39 = .ok (.goto (-37), 3) := by decide +kernel
theorem dX4_passDays_42 : decode cX4_passDays 42 = .ok (.aload_n 0, 1) := by decide +kernel
theorem dX4_passDays_43 : decode cX4_passDays 43 = .ok (.dup, 1) := by decide +kernel
theorem dX4_passDays_44 : decode cX4_passDays 44 = .ok (.getfield 43, 3) := by decide +kernel
theorem dX4_passDays_47 : decode cX4_passDays 47 = .ok (.iload_n 1, 1) := by decide +kernel
theorem dX4_passDays_48 : decode cX4_passDays 48 = .ok (.iadd, 1) := by decide +kernel
theorem dX4_passDays_49 : decode cX4_passDays 49 = .ok (.putfield 43, 3) := by decide +kernel
theorem dX4_passDays_52 : decode cX4_passDays 52 = .ok (.return_, 1) := by decide +kernel
theorem dX4_canSell_0 : decode cX4_canSell 0 = .ok (.aload_n 0, 1) := by decide +kernel
theorem dX4_canSell_1 : decode cX4_canSell 1 = .ok (.iload_n 1, 1) := by decide +kernel
theorem dX4_canSell_2 : decode cX4_canSell 2 = .ok (.invokevirtual 83, 3) := by decide +kernel
theorem dX4_canSell_5 : decode cX4_canSell 5 = .ok (.ifCond .eq 31, 3) := by decide +kernel
theorem dX4_canSell_8 : decode cX4_canSell 8 = .ok (.aload_n 0, 1) := by decide +kernel
theorem dX4_canSell_9 : decode cX4_canSell 9 = .ok (.iload_n 2, 1) := by decide +kernel
theorem dX4_canSell_10 : decode cX4_canSell 10 = .ok (.invokevirtual 80, 3) := by decide +kernel
theorem dX4_canSell_13 : decode cX4_canSell 13 = .ok (.ifCond .eq 23, 3) := by decide +kernel
theorem dX4_canSell_16 : decode cX4_canSell 16 = .ok (.aload_n 0, 1) := by decide +kernel
theorem dX4_canSell_17 : decode cX4_canSell 17 = .ok (.getfield 30, 3) := by decide +kernel
theorem dX4_canSell_20 : decode cX4_canSell 20 = .ok (.iload_n 1, 1) := by decide +kernel
theorem dX4_canSell_21 : decode cX4_canSell 21 = .ok (.invokestatic 65, 3) := by decide +kernel
theorem dX4_canSell_24 : decode cX4_canSell 24 = .ok (.aload_n 0, 1) := by decide +kernel
theorem dX4_canSell_25 : decode cX4_canSell 25 = .ok (.iload_n 2, 1) := by decide +kernel
theorem dX4_canSell_26 : decode cX4_canSell 26 = .ok (.invokevirtual 86, 3) := by decide +kernel
theorem dX4_canSell_29 : decode cX4_canSell 29 = .ok (.if_icmp .lt 7, 3) := by decide +kernel
theorem dX4_canSell_32 : decode cX4_canSell 32 = .ok (.iconst 1, 1) := by decide +kernel
theorem dX4_canSell_33 : decode cX4_canSell 33 = .ok (.goto 4, 3) := by decide +kernel
theorem dX4_canSell_36 : decode cX4_canSell 36 = .ok (.iconst 0, 1) := by decide +kernel
theorem dX4_canSell_37 : decode cX4_canSell 37 = .ok (.ireturn, 1) := by decide +kernel
theorem dX4_sell_0 : decode cX4_sell 0 = .ok (.aload_n 0, 1) := by decide +kernel
theorem dX4_sell_1 : decode cX4_sell 1 = .ok (.getfield 30, 3) := by decide +kernel
theorem dX4_sell_4 : decode cX4_sell 4 = .ok (.iload_n 1, 1) := by decide +kernel
theorem dX4_sell_5 : decode cX4_sell 5 = .ok (.aload_n 0, 1) := by decide +kernel
theorem dX4_sell_6 : decode cX4_sell 6 = .ok (.getfield 30, 3) := by decide +kernel
theorem dX4_sell_9 : decode cX4_sell 9 = .ok (.iload_n 1, 1) := by decide +kernel
theorem dX4_sell_10 : decode cX4_sell 10 = .ok (.invokestatic 65, 3) := by decide +kernel
theorem dX4_sell_13 : decode cX4_sell 13 = .ok (.aload_n 0, 1) := by decide +kernel
theorem dX4_sell_14 : decode cX4_sell 14 = .ok (.iload_n 2, 1) := by decide +kernel
theorem dX4_sell_15 : decode cX4_sell 15 = .ok (.invokevirtual 86, 3) := by decide +kernel
theorem dX4_sell_18 : decode cX4_sell 18 = .ok (.isub, 1) := by decide +kernel
theorem dX4_sell_19 : decode cX4_sell 19 = .ok (.invokestatic 53, 3) := by decide +kernel
theorem dX4_sell_22 : decode cX4_sell 22 = .ok (.aload_n 0, 1) := by decide +kernel
theorem dX4_sell_23 : decode cX4_sell 23 = .ok (.getfield 21, 3) := by decide +kernel
theorem dX4_sell_26 : decode cX4_sell 26 = .ok (.iload_n 2, 1) := by decide +kernel
theorem dX4_sell_27 : decode cX4_sell 27 = .ok (.iconst 1, 1) := by decide +kernel
theorem dX4_sell_28 : decode cX4_sell 28 = .ok (.iload_n 1, 1) := by decide +kernel
theorem dX4_sell_29 : decode cX4_sell 29 = .ok (.iadd, 1) := by decide +kernel
theorem dX4_sell_30 : decode cX4_sell 30 = .ok (.invokestatic 53, 3) := by decide +kernel
theorem dX4_sell_33 : decode cX4_sell 33 = .ok (.return_, 1) := by decide +kernel
theorem dX4_give_0 : decode cX4_give 0 = .ok (.aload_n 0, 1) := by decide +kernel
theorem dX4_give_1 : decode cX4_give 1 = .ok (.iload_n 1, 1) := by decide +kernel
theorem dX4_give_2 : decode cX4_give 2 = .ok (.iload_n 2, 1) := by decide +kernel
theorem dX4_give_3 : decode cX4_give 3 = .ok (.invokevirtual 90, 3) := by decide +kernel
theorem dX4_give_6 : decode cX4_give 6 = .ok (.istore_n 3, 1) := by decide +kernel
theorem dX4_give_7 : decode cX4_give 7 = .ok (.aload_n 0, 1) := by decide +kernel
theorem dX4_give_8 : decode cX4_give 8 = .ok (.dup, 1) := by decide +kernel
theorem dX4_give_9 : decode cX4_give 9 = .ok (.getfield 46, 3) := by decide +kernel
theorem dX4_give_12 : decode cX4_give 12 = .ok (.iload_n 3, 1) := by decide +kernel
theorem dX4_give_13 : decode cX4_give 13 = .ok (.iadd, 1) := by decide +kernel
theorem dX4_give_14 : decode cX4_give 14 = .ok (.putfield 46, 3) := by decide +kernel
theorem dX4_give_17 : decode cX4_give 17 = .ok (.aload_n 0, 1) := by decide +kernel
theorem dX4_give_18 : decode cX4_give 18 = .ok (.getfield 21, 3) := by decide +kernel
theorem dX4_give_21 : decode cX4_give 21 = .ok (.iload_n 1, 1) := by decide +kernel
theorem dX4_give_22 : decode cX4_give 22 = .ok (.bipush 10, 2) := by decide +kernel
theorem dX4_give_24 : decode cX4_give 24 = .ok (.iload_n 2, 1) := by decide +kernel
theorem dX4_give_25 : decode cX4_give 25 = .ok (.iadd, 1) := by decide +kernel
theorem dX4_give_26 : decode cX4_give 26 = .ok (.invokestatic 53, 3) := by decide +kernel
theorem dX4_give_29 : decode cX4_give 29 = .ok (.iload_n 3, 1) := by decide +kernel
theorem dX4_give_30 : decode cX4_give 30 = .ok (.ireturn, 1) := by decide +kernel
theorem dX4_bitsAt_0 : decode cX4_bitsAt 0 = .ok (.iconst 0, 1) := by decide +kernel
theorem dX4_bitsAt_1 : decode cX4_bitsAt 1 = .ok (.istore_n 2, 1) := by decide +kernel
theorem dX4_bitsAt_2 : decode cX4_bitsAt 2 = .ok (.iconst 0, 1) := by decide +kernel
theorem dX4_bitsAt_3 : decode cX4_bitsAt 3 = .ok (.istore_n 3, 1) := by decide +kernel
theorem dX4_bitsAt_4 : decode cX4_bitsAt 4 = .ok (.iload_n 3, 1) := by decide +kernel
theorem dX4_bitsAt_5 : decode cX4_bitsAt 5 = .ok (.aload_n 0, 1) := by decide +kernel
theorem dX4_bitsAt_6 : decode cX4_bitsAt 6 = .ok (.getfield 33, 3) := by decide +kernel
theorem dX4_bitsAt_9 : decode cX4_bitsAt 9 = .ok (.if_icmp .ge 27, 3) := by decide +kernel
theorem dX4_bitsAt_12 : decode cX4_bitsAt 12 = .ok (.aload_n 0, 1) := by decide +kernel
theorem dX4_bitsAt_13 : decode cX4_bitsAt 13 = .ok (.getfield 21, 3) := by decide +kernel
theorem dX4_bitsAt_16 : decode cX4_bitsAt 16 = .ok (.iload_n 3, 1) := by decide +kernel
theorem dX4_bitsAt_17 : decode cX4_bitsAt 17 = .ok (.invokestatic 65, 3) := by decide +kernel
theorem dX4_bitsAt_20 : decode cX4_bitsAt 20 = .ok (.iload_n 1, 1) := by decide +kernel
theorem dX4_bitsAt_21 : decode cX4_bitsAt 21 = .ok (.if_icmp .ne 9, 3) := by decide +kernel
theorem dX4_bitsAt_24 : decode cX4_bitsAt 24 = .ok (.iload_n 2, 1) := by decide +kernel
theorem dX4_bitsAt_25 : decode cX4_bitsAt 25 = .ok (.iconst 1, 1) := by decide +kernel
theorem dX4_bitsAt_26 : decode cX4_bitsAt 26 = .ok (.iload_n 3, 1) := by decide +kernel
theorem dX4_bitsAt_27 : decode cX4_bitsAt 27 = .ok (.ishl, 1) := by decide +kernel
theorem dX4_bitsAt_28 : decode cX4_bitsAt 28 = .ok (.ior, 1) := by decide +kernel
theorem dX4_bitsAt_29 : decode cX4_bitsAt 29 = .ok (.istore_n 2, 1) := by decide +kernel
theorem dX4_bitsAt_30 : decode cX4_bitsAt 30 = .ok (.iinc 3 1, 3) := by decide +kernel
theorem dX4_bitsAt_33 : decode cX4_bitsAt 33 = .ok (.goto (-29), 3) := by decide +kernel
theorem dX4_bitsAt_36 : decode cX4_bitsAt 36 = .ok (.iload_n 2, 1) := by decide +kernel
theorem dX4_bitsAt_37 : decode cX4_bitsAt 37 = .ok (.ireturn, 1) := by decide +kernel
theorem dX4_keptCount_0 : decode cX4_keptCount 0 = .ok (.iconst 0, 1) := by decide +kernel
theorem dX4_keptCount_1 : decode cX4_keptCount 1 = .ok (.istore_n 1, 1) := by decide +kernel
theorem dX4_keptCount_2 : decode cX4_keptCount 2 = .ok (.iconst 0, 1) := by decide +kernel
theorem dX4_keptCount_3 : decode cX4_keptCount 3 = .ok (.istore_n 2, 1) := by decide +kernel
theorem dX4_keptCount_4 : decode cX4_keptCount 4 = .ok (.iload_n 2, 1) := by decide +kernel
theorem dX4_keptCount_5 : decode cX4_keptCount 5 = .ok (.aload_n 0, 1) := by decide +kernel
theorem dX4_keptCount_6 : decode cX4_keptCount 6 = .ok (.getfield 37, 3) := by decide +kernel
theorem dX4_keptCount_9 : decode cX4_keptCount 9 = .ok (.if_icmp .ge 23, 3) := by decide +kernel
theorem dX4_keptCount_12 : decode cX4_keptCount 12 = .ok (.iload_n 1, 1) := by decide +kernel
theorem dX4_keptCount_13 : decode cX4_keptCount 13 = .ok (.aload_n 0, 1) := by decide +kernel
theorem dX4_keptCount_14 : decode cX4_keptCount 14 = .ok (.bipush 10, 2) := by decide +kernel
theorem dX4_keptCount_16 : decode cX4_keptCount 16 = .ok (.iload_n 2, 1) := by decide +kernel
theorem dX4_keptCount_17 : decode cX4_keptCount 17 = .ok (.iadd, 1) := by decide +kernel
theorem dX4_keptCount_18 : decode cX4_keptCount 18 = .ok (.invokevirtual 93, 3) := by decide +kernel
theorem dX4_keptCount_21 : decode cX4_keptCount 21 = .ok (.invokestatic 96, 3) := by decide +kernel
theorem dX4_keptCount_24 : decode cX4_keptCount 24 = .ok (.iadd, 1) := by decide +kernel
theorem dX4_keptCount_25 : decode cX4_keptCount 25 = .ok (.istore_n 1, 1) := by decide +kernel
theorem dX4_keptCount_26 : decode cX4_keptCount 26 = .ok (.iinc 2 1, 3) := by decide +kernel
theorem dX4_keptCount_29 : decode cX4_keptCount 29 = .ok (.goto (-25), 3) := by decide +kernel
theorem dX4_keptCount_32 : decode cX4_keptCount 32 = .ok (.iload_n 1, 1) := by decide +kernel
theorem dX4_keptCount_33 : decode cX4_keptCount 33 = .ok (.ireturn, 1) := by decide +kernel
theorem dX4_waitingBits_0 : decode cX4_waitingBits 0 = .ok (.iconst 0, 1) := by decide +kernel
theorem dX4_waitingBits_1 : decode cX4_waitingBits 1 = .ok (.istore_n 1, 1) := by decide +kernel
theorem dX4_waitingBits_2 : decode cX4_waitingBits 2 = .ok (.iconst 0, 1) := by decide +kernel
theorem dX4_waitingBits_3 : decode cX4_waitingBits 3 = .ok (.istore_n 2, 1) := by decide +kernel
theorem dX4_waitingBits_4 : decode cX4_waitingBits 4 = .ok (.iload_n 2, 1) := by decide +kernel
theorem dX4_waitingBits_5 : decode cX4_waitingBits 5 = .ok (.aload_n 0, 1) := by decide +kernel
theorem dX4_waitingBits_6 : decode cX4_waitingBits 6 = .ok (.getfield 37, 3) := by decide +kernel
theorem dX4_waitingBits_9 : decode cX4_waitingBits 9 = .ok (.if_icmp .ge 26, 3) := by decide +kernel
theorem dX4_waitingBits_12 : decode cX4_waitingBits 12 = .ok (.aload_n 0, 1) := by decide +kernel
theorem dX4_waitingBits_13 : decode cX4_waitingBits 13 = .ok (.bipush 10, 2) := by decide +kernel
theorem dX4_waitingBits_15 : decode cX4_waitingBits 15 = .ok (.iload_n 2, 1) := by decide +kernel
theorem dX4_waitingBits_16 : decode cX4_waitingBits 16 = .ok (.iadd, 1) := by decide +kernel
theorem dX4_waitingBits_17 : decode cX4_waitingBits 17 = .ok (.invokevirtual 93, 3) := by decide +kernel
theorem dX4_waitingBits_20 : decode cX4_waitingBits 20 = .ok (.ifCond .ne 9, 3) := by decide +kernel
theorem dX4_waitingBits_23 : decode cX4_waitingBits 23 = .ok (.iload_n 1, 1) := by decide +kernel
theorem dX4_waitingBits_24 : decode cX4_waitingBits 24 = .ok (.iconst 1, 1) := by decide +kernel
theorem dX4_waitingBits_25 : decode cX4_waitingBits 25 = .ok (.iload_n 2, 1) := by decide +kernel
theorem dX4_waitingBits_26 : decode cX4_waitingBits 26 = .ok (.ishl, 1) := by decide +kernel
theorem dX4_waitingBits_27 : decode cX4_waitingBits 27 = .ok (.ior, 1) := by decide +kernel
theorem dX4_waitingBits_28 : decode cX4_waitingBits 28 = .ok (.istore_n 1, 1) := by decide +kernel
theorem dX4_waitingBits_29 : decode cX4_waitingBits 29 = .ok (.iinc 2 1, 3) := by decide +kernel
theorem dX4_waitingBits_32 : decode cX4_waitingBits 32 = .ok (.goto (-28), 3) := by decide +kernel
theorem dX4_waitingBits_35 : decode cX4_waitingBits 35 = .ok (.iload_n 1, 1) := by decide +kernel
theorem dX4_waitingBits_36 : decode cX4_waitingBits 36 = .ok (.ireturn, 1) := by decide +kernel
theorem dX4_digestOn_0 : decode cX4_digestOn 0 = .ok (.lload_n 1, 1) := by decide +kernel
theorem dX4_digestOn_1 : decode cX4_digestOn 1 = .ok (.lstore_n 3, 1) := by decide +kernel
theorem dX4_digestOn_2 : decode cX4_digestOn 2 = .ok (.iconst 0, 1) := by decide +kernel
theorem dX4_digestOn_3 : decode cX4_digestOn 3 = .ok (.istore 5, 2) := by decide +kernel
theorem dX4_digestOn_5 : decode cX4_digestOn 5 = .ok (.iload 5, 2) := by decide +kernel
theorem dX4_digestOn_7 : decode cX4_digestOn 7 = .ok (.aload_n 0, 1) := by decide +kernel
theorem dX4_digestOn_8 : decode cX4_digestOn 8 = .ok (.getfield 33, 3) := by decide +kernel
theorem dX4_digestOn_11 : decode cX4_digestOn 11 = .ok (.if_icmp .ge 77, 3) := by decide +kernel
theorem dX4_digestOn_14 : decode cX4_digestOn 14 = .ok (.ldc2_w 101, 3) := by decide +kernel
theorem dX4_digestOn_17 : decode cX4_digestOn 17 = .ok (.lload_n 3, 1) := by decide +kernel
theorem dX4_digestOn_18 : decode cX4_digestOn 18 = .ok (.lmul, 1) := by decide +kernel
theorem dX4_digestOn_19 : decode cX4_digestOn 19 = .ok (.aload_n 0, 1) := by decide +kernel
theorem dX4_digestOn_20 : decode cX4_digestOn 20 = .ok (.getfield 9, 3) := by decide +kernel
theorem dX4_digestOn_23 : decode cX4_digestOn 23 = .ok (.iload 5, 2) := by decide +kernel
theorem dX4_digestOn_25 : decode cX4_digestOn 25 = .ok (.invokestatic 65, 3) := by decide +kernel
theorem dX4_digestOn_28 : decode cX4_digestOn 28 = .ok (.i2l, 1) := by decide +kernel
theorem dX4_digestOn_29 : decode cX4_digestOn 29 = .ok (.ladd, 1) := by decide +kernel
theorem dX4_digestOn_30 : decode cX4_digestOn 30 = .ok (.lstore_n 3, 1) := by decide +kernel
theorem dX4_digestOn_31 : decode cX4_digestOn 31 = .ok (.ldc2_w 101, 3) := by decide +kernel
theorem dX4_digestOn_34 : decode cX4_digestOn 34 = .ok (.lload_n 3, 1) := by decide +kernel
theorem dX4_digestOn_35 : decode cX4_digestOn 35 = .ok (.lmul, 1) := by decide +kernel
theorem dX4_digestOn_36 : decode cX4_digestOn 36 = .ok (.aload_n 0, 1) := by decide +kernel
theorem dX4_digestOn_37 : decode cX4_digestOn 37 = .ok (.getfield 15, 3) := by decide +kernel
theorem dX4_digestOn_40 : decode cX4_digestOn 40 = .ok (.iload 5, 2) := by decide +kernel
theorem dX4_digestOn_42 : decode cX4_digestOn 42 = .ok (.invokestatic 65, 3) := by decide +kernel
theorem dX4_digestOn_45 : decode cX4_digestOn 45 = .ok (.i2l, 1) := by decide +kernel
theorem dX4_digestOn_46 : decode cX4_digestOn 46 = .ok (.ladd, 1) := by decide +kernel
theorem dX4_digestOn_47 : decode cX4_digestOn 47 = .ok (.lstore_n 3, 1) := by decide +kernel
theorem dX4_digestOn_48 : decode cX4_digestOn 48 = .ok (.ldc2_w 101, 3) := by decide +kernel
theorem dX4_digestOn_51 : decode cX4_digestOn 51 = .ok (.lload_n 3, 1) := by decide +kernel
theorem dX4_digestOn_52 : decode cX4_digestOn 52 = .ok (.lmul, 1) := by decide +kernel
theorem dX4_digestOn_53 : decode cX4_digestOn 53 = .ok (.aload_n 0, 1) := by decide +kernel
theorem dX4_digestOn_54 : decode cX4_digestOn 54 = .ok (.getfield 18, 3) := by decide +kernel
theorem dX4_digestOn_57 : decode cX4_digestOn 57 = .ok (.iload 5, 2) := by decide +kernel
theorem dX4_digestOn_59 : decode cX4_digestOn 59 = .ok (.invokestatic 65, 3) := by decide +kernel
theorem dX4_digestOn_62 : decode cX4_digestOn 62 = .ok (.i2l, 1) := by decide +kernel
theorem dX4_digestOn_63 : decode cX4_digestOn 63 = .ok (.ladd, 1) := by decide +kernel
theorem dX4_digestOn_64 : decode cX4_digestOn 64 = .ok (.lstore_n 3, 1) := by decide +kernel
theorem dX4_digestOn_65 : decode cX4_digestOn 65 = .ok (.ldc2_w 101, 3) := by decide +kernel
theorem dX4_digestOn_68 : decode cX4_digestOn 68 = .ok (.lload_n 3, 1) := by decide +kernel
theorem dX4_digestOn_69 : decode cX4_digestOn 69 = .ok (.lmul, 1) := by decide +kernel
theorem dX4_digestOn_70 : decode cX4_digestOn 70 = .ok (.aload_n 0, 1) := by decide +kernel
theorem dX4_digestOn_71 : decode cX4_digestOn 71 = .ok (.getfield 21, 3) := by decide +kernel
theorem dX4_digestOn_74 : decode cX4_digestOn 74 = .ok (.iload 5, 2) := by decide +kernel
theorem dX4_digestOn_76 : decode cX4_digestOn 76 = .ok (.invokestatic 65, 3) := by decide +kernel
theorem dX4_digestOn_79 : decode cX4_digestOn 79 = .ok (.i2l, 1) := by decide +kernel
theorem dX4_digestOn_80 : decode cX4_digestOn 80 = .ok (.ladd, 1) := by decide +kernel
theorem dX4_digestOn_81 : decode cX4_digestOn 81 = .ok (.lstore_n 3, 1) := by decide +kernel
theorem dX4_digestOn_82 : decode cX4_digestOn 82 = .ok (.iinc 5 1, 3) := by decide +kernel
theorem dX4_digestOn_85 : decode cX4_digestOn 85 = .ok (.goto (-80), 3) := by decide +kernel
theorem dX4_digestOn_88 : decode cX4_digestOn 88 = .ok (.iconst 0, 1) := by decide +kernel
theorem dX4_digestOn_89 : decode cX4_digestOn 89 = .ok (.istore 5, 2) := by decide +kernel
theorem dX4_digestOn_91 : decode cX4_digestOn 91 = .ok (.iload 5, 2) := by decide +kernel
theorem dX4_digestOn_93 : decode cX4_digestOn 93 = .ok (.aload_n 0, 1) := by decide +kernel
theorem dX4_digestOn_94 : decode cX4_digestOn 94 = .ok (.getfield 37, 3) := by decide +kernel
theorem dX4_digestOn_97 : decode cX4_digestOn 97 = .ok (.if_icmp .ge 43, 3) := by decide +kernel
theorem dX4_digestOn_100 : decode cX4_digestOn 100 = .ok (.ldc2_w 101, 3) := by decide +kernel
theorem dX4_digestOn_103 : decode cX4_digestOn 103 = .ok (.lload_n 3, 1) := by decide +kernel
theorem dX4_digestOn_104 : decode cX4_digestOn 104 = .ok (.lmul, 1) := by decide +kernel
theorem dX4_digestOn_105 : decode cX4_digestOn 105 = .ok (.aload_n 0, 1) := by decide +kernel
theorem dX4_digestOn_106 : decode cX4_digestOn 106 = .ok (.getfield 24, 3) := by decide +kernel
theorem dX4_digestOn_109 : decode cX4_digestOn 109 = .ok (.iload 5, 2) := by decide +kernel
theorem dX4_digestOn_111 : decode cX4_digestOn 111 = .ok (.invokestatic 65, 3) := by decide +kernel
theorem dX4_digestOn_114 : decode cX4_digestOn 114 = .ok (.i2l, 1) := by decide +kernel
theorem dX4_digestOn_115 : decode cX4_digestOn 115 = .ok (.ladd, 1) := by decide +kernel
theorem dX4_digestOn_116 : decode cX4_digestOn 116 = .ok (.lstore_n 3, 1) := by decide +kernel
theorem dX4_digestOn_117 : decode cX4_digestOn 117 = .ok (.ldc2_w 101, 3) := by decide +kernel
theorem dX4_digestOn_120 : decode cX4_digestOn 120 = .ok (.lload_n 3, 1) := by decide +kernel
theorem dX4_digestOn_121 : decode cX4_digestOn 121 = .ok (.lmul, 1) := by decide +kernel
theorem dX4_digestOn_122 : decode cX4_digestOn 122 = .ok (.aload_n 0, 1) := by decide +kernel
theorem dX4_digestOn_123 : decode cX4_digestOn 123 = .ok (.getfield 27, 3) := by decide +kernel
theorem dX4_digestOn_126 : decode cX4_digestOn 126 = .ok (.iload 5, 2) := by decide +kernel
theorem dX4_digestOn_128 : decode cX4_digestOn 128 = .ok (.invokestatic 65, 3) := by decide +kernel
theorem dX4_digestOn_131 : decode cX4_digestOn 131 = .ok (.i2l, 1) := by decide +kernel
theorem dX4_digestOn_132 : decode cX4_digestOn 132 = .ok (.ladd, 1) := by decide +kernel
theorem dX4_digestOn_133 : decode cX4_digestOn 133 = .ok (.lstore_n 3, 1) := by decide +kernel
theorem dX4_digestOn_134 : decode cX4_digestOn 134 = .ok (.iinc 5 1, 3) := by decide +kernel
theorem dX4_digestOn_137 : decode cX4_digestOn 137 = .ok (.goto (-46), 3) := by decide +kernel
theorem dX4_digestOn_140 : decode cX4_digestOn 140 = .ok (.iconst 0, 1) := by decide +kernel
theorem dX4_digestOn_141 : decode cX4_digestOn 141 = .ok (.istore 5, 2) := by decide +kernel
theorem dX4_digestOn_143 : decode cX4_digestOn 143 = .ok (.iload 5, 2) := by decide +kernel
theorem dX4_digestOn_145 : decode cX4_digestOn 145 = .ok (.aload_n 0, 1) := by decide +kernel
theorem dX4_digestOn_146 : decode cX4_digestOn 146 = .ok (.getfield 40, 3) := by decide +kernel
theorem dX4_digestOn_149 : decode cX4_digestOn 149 = .ok (.if_icmp .ge 26, 3) := by decide +kernel
theorem dX4_digestOn_152 : decode cX4_digestOn 152 = .ok (.ldc2_w 101, 3) := by decide +kernel
theorem dX4_digestOn_155 : decode cX4_digestOn 155 = .ok (.lload_n 3, 1) := by decide +kernel
theorem dX4_digestOn_156 : decode cX4_digestOn 156 = .ok (.lmul, 1) := by decide +kernel
theorem dX4_digestOn_157 : decode cX4_digestOn 157 = .ok (.aload_n 0, 1) := by decide +kernel
theorem dX4_digestOn_158 : decode cX4_digestOn 158 = .ok (.getfield 30, 3) := by decide +kernel
theorem dX4_digestOn_161 : decode cX4_digestOn 161 = .ok (.iload 5, 2) := by decide +kernel
theorem dX4_digestOn_163 : decode cX4_digestOn 163 = .ok (.invokestatic 65, 3) := by decide +kernel
theorem dX4_digestOn_166 : decode cX4_digestOn 166 = .ok (.i2l, 1) := by decide +kernel
theorem dX4_digestOn_167 : decode cX4_digestOn 167 = .ok (.ladd, 1) := by decide +kernel
theorem dX4_digestOn_168 : decode cX4_digestOn 168 = .ok (.lstore_n 3, 1) := by decide +kernel
theorem dX4_digestOn_169 : decode cX4_digestOn 169 = .ok (.iinc 5 1, 3) := by decide +kernel
theorem dX4_digestOn_172 : decode cX4_digestOn 172 = .ok (.goto (-29), 3) := by decide +kernel
theorem dX4_digestOn_175 : decode cX4_digestOn 175 = .ok (.lload_n 3, 1) := by decide +kernel
theorem dX4_digestOn_176 : decode cX4_digestOn 176 = .ok (.lreturn, 1) := by decide +kernel
end
section
theorem dX5_init_0 : decode cX5_init 0 = .ok (.aload_n 0, 1) := by decide +kernel
theorem dX5_init_1 : decode cX5_init 1 = .ok (.invokespecial 1, 3) := by decide +kernel
theorem dX5_init_4 : decode cX5_init 4 = .ok (.aload_n 0, 1) := by decide +kernel
theorem dX5_init_5 : decode cX5_init 5 = .ok (.new 7, 3) := by decide +kernel
theorem dX5_init_8 : decode cX5_init 8 = .ok (.dup, 1) := by decide +kernel
theorem dX5_init_9 : decode cX5_init 9 = .ok (.invokespecial 9, 3) := by decide +kernel
theorem dX5_init_12 : decode cX5_init 12 = .ok (.putfield 10, 3) := by decide +kernel
theorem dX5_init_15 : decode cX5_init 15 = .ok (.aload_n 0, 1) := by decide +kernel
theorem dX5_init_16 : decode cX5_init 16 = .ok (.new 7, 3) := by decide +kernel
theorem dX5_init_19 : decode cX5_init 19 = .ok (.dup, 1) := by decide +kernel
theorem dX5_init_20 : decode cX5_init 20 = .ok (.invokespecial 9, 3) := by decide +kernel
theorem dX5_init_23 : decode cX5_init 23 = .ok (.putfield 16, 3) := by decide +kernel
theorem dX5_init_26 : decode cX5_init 26 = .ok (.aload_n 0, 1) := by decide +kernel
theorem dX5_init_27 : decode cX5_init 27 = .ok (.new 7, 3) := by decide +kernel
theorem dX5_init_30 : decode cX5_init 30 = .ok (.dup, 1) := by decide +kernel
theorem dX5_init_31 : decode cX5_init 31 = .ok (.invokespecial 9, 3) := by decide +kernel
theorem dX5_init_34 : decode cX5_init 34 = .ok (.putfield 19, 3) := by decide +kernel
theorem dX5_init_37 : decode cX5_init 37 = .ok (.aload_n 0, 1) := by decide +kernel
theorem dX5_init_38 : decode cX5_init 38 = .ok (.new 22, 3) := by decide +kernel
theorem dX5_init_41 : decode cX5_init 41 = .ok (.dup, 1) := by decide +kernel
theorem dX5_init_42 : decode cX5_init 42 = .ok (.invokespecial 24, 3) := by decide +kernel
theorem dX5_init_45 : decode cX5_init 45 = .ok (.putfield 25, 3) := by decide +kernel
theorem dX5_init_48 : decode cX5_init 48 = .ok (.aload_n 0, 1) := by decide +kernel
theorem dX5_init_49 : decode cX5_init 49 = .ok (.new 29, 3) := by decide +kernel
theorem dX5_init_52 : decode cX5_init 52 = .ok (.dup, 1) := by decide +kernel
theorem dX5_init_53 : decode cX5_init 53 = .ok (.invokespecial 31, 3) := by decide +kernel
theorem dX5_init_56 : decode cX5_init 56 = .ok (.putfield 32, 3) := by decide +kernel
theorem dX5_init_59 : decode cX5_init 59 = .ok (.aload_n 0, 1) := by decide +kernel
theorem dX5_init_60 : decode cX5_init 60 = .ok (.bipush 28, 2) := by decide +kernel
theorem dX5_init_62 : decode cX5_init 62 = .ok (.newarray .int, 2) := by decide +kernel
theorem dX5_init_64 : decode cX5_init 64 = .ok (.putfield 36, 3) := by decide +kernel
theorem dX5_init_67 : decode cX5_init 67 = .ok (.aload_n 0, 1) := by decide +kernel
theorem dX5_init_68 : decode cX5_init 68 = .ok (.bipush 7, 2) := by decide +kernel
theorem dX5_init_70 : decode cX5_init 70 = .ok (.newarray .int, 2) := by decide +kernel
theorem dX5_init_72 : decode cX5_init 72 = .ok (.putfield 40, 3) := by decide +kernel
theorem dX5_init_75 : decode cX5_init 75 = .ok (.aload_n 0, 1) := by decide +kernel
theorem dX5_init_76 : decode cX5_init 76 = .ok (.bipush 7, 2) := by decide +kernel
theorem dX5_init_78 : decode cX5_init 78 = .ok (.newarray .int, 2) := by decide +kernel
theorem dX5_init_80 : decode cX5_init 80 = .ok (.putfield 43, 3) := by decide +kernel
theorem dX5_init_83 : decode cX5_init 83 = .ok (.aload_n 0, 1) := by decide +kernel
theorem dX5_init_84 : decode cX5_init 84 = .ok (.lconst 0, 1) := by decide +kernel
theorem dX5_init_85 : decode cX5_init 85 = .ok (.putfield 46, 3) := by decide +kernel
theorem dX5_init_88 : decode cX5_init 88 = .ok (.aload_n 0, 1) := by decide +kernel
theorem dX5_init_89 : decode cX5_init 89 = .ok (.lconst 1, 1) := by decide +kernel
theorem dX5_init_90 : decode cX5_init 90 = .ok (.putfield 50, 3) := by decide +kernel
theorem dX5_init_93 : decode cX5_init 93 = .ok (.aload_n 0, 1) := by decide +kernel
theorem dX5_init_94 : decode cX5_init 94 = .ok (.iconst 0, 1) := by decide +kernel
theorem dX5_init_95 : decode cX5_init 95 = .ok (.putfield 53, 3) := by decide +kernel
theorem dX5_init_98 : decode cX5_init 98 = .ok (.aload_n 0, 1) := by decide +kernel
theorem dX5_init_99 : decode cX5_init 99 = .ok (.iconst 0, 1) := by decide +kernel
theorem dX5_init_100 : decode cX5_init 100 = .ok (.putfield 57, 3) := by decide +kernel
theorem dX5_init_103 : decode cX5_init 103 = .ok (.aload_n 0, 1) := by decide +kernel
theorem dX5_init_104 : decode cX5_init 104 = .ok (.iconst 0, 1) := by decide +kernel
theorem dX5_init_105 : decode cX5_init 105 = .ok (.putfield 60, 3) := by decide +kernel
theorem dX5_init_108 : decode cX5_init 108 = .ok (.return_, 1) := by decide +kernel
theorem dX5_at_0 : decode cX5_at 0 = .ok (.aload_n 0, 1) := by decide +kernel
theorem dX5_at_1 : decode cX5_at 1 = .ok (.ifnull 19, 3) := by decide +kernel
theorem dX5_at_4 : decode cX5_at 4 = .ok (.iload_n 1, 1) := by decide +kernel
theorem dX5_at_5 : decode cX5_at 5 = .ok (.ifCond .lt 15, 3) := by decide +kernel
theorem dX5_at_8 : decode cX5_at 8 = .ok (.iload_n 1, 1) := by decide +kernel
theorem dX5_at_9 : decode cX5_at 9 = .ok (.aload_n 0, 1) := by decide +kernel
theorem dX5_at_10 : decode cX5_at 10 = .ok (.arraylength, 1) := by decide +kernel
theorem dX5_at_11 : decode cX5_at 11 = .ok (.if_icmp .ge 9, 3) := by decide +kernel
theorem dX5_at_14 : decode cX5_at 14 = .ok (.aload_n 0, 1) := by decide +kernel
theorem dX5_at_15 : decode cX5_at 15 = .ok (.iload_n 1, 1) := by decide +kernel
theorem dX5_at_16 : decode cX5_at 16 = .ok (.iaload, 1) := by decide +kernel
theorem dX5_at_17 : decode cX5_at 17 = .ok (.goto 4, 3) := by decide +kernel
theorem dX5_at_20 : decode cX5_at 20 = .ok (.iconst 0, 1) := by decide +kernel
theorem dX5_at_21 : decode cX5_at 21 = .ok (.ireturn, 1) := by decide +kernel
theorem dX5_put_0 : decode cX5_put 0 = .ok (.aload_n 0, 1) := by decide +kernel
theorem dX5_put_1 : decode cX5_put 1 = .ok (.ifnull 17, 3) := by decide +kernel
theorem dX5_put_4 : decode cX5_put 4 = .ok (.iload_n 1, 1) := by decide +kernel
theorem dX5_put_5 : decode cX5_put 5 = .ok (.ifCond .lt 13, 3) := by decide +kernel
theorem dX5_put_8 : decode cX5_put 8 = .ok (.iload_n 1, 1) := by decide +kernel
theorem dX5_put_9 : decode cX5_put 9 = .ok (.aload_n 0, 1) := by decide +kernel
theorem dX5_put_10 : decode cX5_put 10 = .ok (.arraylength, 1) := by decide +kernel
theorem dX5_put_11 : decode cX5_put 11 = .ok (.if_icmp .ge 7, 3) := by decide +kernel
theorem dX5_put_14 : decode cX5_put 14 = .ok (.aload_n 0, 1) := by decide +kernel
theorem dX5_put_15 : decode cX5_put 15 = .ok (.iload_n 1, 1) := by decide +kernel
theorem dX5_put_16 : decode cX5_put 16 = .ok (.iload_n 2, 1) := by decide +kernel
theorem dX5_put_17 : decode cX5_put 17 = .ok (.iastore, 1) := by decide +kernel
theorem dX5_put_18 : decode cX5_put 18 = .ok (.return_, 1) := by decide +kernel
theorem dX5_copyCells_0 : decode cX5_copyCells 0 = .ok (.aload_n 0, 1) := by decide +kernel
theorem dX5_copyCells_1 : decode cX5_copyCells 1 = .ok (.ifnull 20, 3) := by decide +kernel
theorem dX5_copyCells_4 : decode cX5_copyCells 4 = .ok (.aload_n 2, 1) := by decide +kernel
theorem dX5_copyCells_5 : decode cX5_copyCells 5 = .ok (.ifnull 16, 3) := by decide +kernel
theorem dX5_copyCells_8 : decode cX5_copyCells 8 = .ok (.iload 4, 2) := by decide +kernel
theorem dX5_copyCells_10 : decode cX5_copyCells 10 = .ok (.ifCond .lt 11, 3) := by decide +kernel
theorem dX5_copyCells_13 : decode cX5_copyCells 13 = .ok (.iload_n 1, 1) := by decide +kernel
theorem dX5_copyCells_14 : decode cX5_copyCells 14 = .ok (.ifCond .lt 7, 3) := by decide +kernel
theorem dX5_copyCells_17 : decode cX5_copyCells 17 = .ok (.iload_n 3, 1) := by decide +kernel
theorem dX5_copyCells_18 : decode cX5_copyCells 18 = .ok (.ifCond .ge 4, 3) := by decide +kernel
theorem dX5_copyCells_21 : decode cX5_copyCells 21 = .ok (.return_, 1) := by decide +kernel
theorem dX5_copyCells_22 : decode cX5_copyCells 22 = .ok (.iload_n 1, 1) := by decide +kernel
theorem dX5_copyCells_23 : decode cX5_copyCells 23 = .ok (.aload_n 0, 1) := by decide +kernel
theorem dX5_copyCells_24 : decode cX5_copyCells 24 = .ok (.arraylength, 1) := by decide +kernel
theorem dX5_copyCells_25 : decode cX5_copyCells 25 = .ok (.iload 4, 2) := by decide +kernel
theorem dX5_copyCells_27 : decode cX5_copyCells 27 = .ok (.isub, 1) := by decide +kernel
theorem dX5_copyCells_28 : decode cX5_copyCells 28 = .ok (.if_icmp .gt 21, 3) := by decide +kernel
theorem dX5_copyCells_31 : decode cX5_copyCells 31 = .ok (.iload_n 3, 1) := by decide +kernel
theorem dX5_copyCells_32 : decode cX5_copyCells 32 = .ok (.aload_n 2, 1) := by decide +kernel
theorem dX5_copyCells_33 : decode cX5_copyCells 33 = .ok (.arraylength, 1) := by decide +kernel
theorem dX5_copyCells_34 : decode cX5_copyCells 34 = .ok (.iload 4, 2) := by decide +kernel
theorem dX5_copyCells_36 : decode cX5_copyCells 36 = .ok (.isub, 1) := by decide +kernel
theorem dX5_copyCells_37 : decode cX5_copyCells 37 = .ok (.if_icmp .gt 12, 3) := by decide +kernel
theorem dX5_copyCells_40 : decode cX5_copyCells 40 = .ok (.aload_n 0, 1) := by decide +kernel
theorem dX5_copyCells_41 : decode cX5_copyCells 41 = .ok (.iload_n 1, 1) := by decide +kernel
theorem dX5_copyCells_42 : decode cX5_copyCells 42 = .ok (.aload_n 2, 1) := by decide +kernel
theorem dX5_copyCells_43 : decode cX5_copyCells 43 = .ok (.iload_n 3, 1) := by decide +kernel
theorem dX5_copyCells_44 : decode cX5_copyCells 44 = .ok (.iload 4, 2) := by decide +kernel
theorem dX5_copyCells_46 : decode cX5_copyCells 46 = .ok (.invokestatic 63, 3) := by decide +kernel
theorem dX5_copyCells_49 : decode cX5_copyCells 49 = .ok (.return_, 1) := by decide +kernel
theorem dX5_copyRow_0 : decode cX5_copyRow 0 = .ok (.aload_n 0, 1) := by decide +kernel
theorem dX5_copyRow_1 : decode cX5_copyRow 1 = .ok (.ifnull 12, 3) := by decide +kernel
theorem dX5_copyRow_4 : decode cX5_copyRow 4 = .ok (.aload_n 0, 1) := by decide +kernel
theorem dX5_copyRow_5 : decode cX5_copyRow 5 = .ok (.iconst 0, 1) := by decide +kernel
theorem dX5_copyRow_6 : decode cX5_copyRow 6 = .ok (.aload_n 1, 1) := by decide +kernel
theorem dX5_copyRow_7 : decode cX5_copyRow 7 = .ok (.iconst 0, 1) := by decide +kernel
theorem dX5_copyRow_8 : decode cX5_copyRow 8 = .ok (.aload_n 0, 1) := by decide +kernel
theorem dX5_copyRow_9 : decode cX5_copyRow 9 = .ok (.arraylength, 1) := by decide +kernel
theorem dX5_copyRow_10 : decode cX5_copyRow 10 = .ok (.invokestatic 69, 3) := by decide +kernel
theorem dX5_copyRow_13 : decode cX5_copyRow 13 = .ok (.return_, 1) := by decide +kernel
theorem dX5_between_0 : decode cX5_between 0 = .ok (.iload_n 0, 1) := by decide +kernel
theorem dX5_between_1 : decode cX5_between 1 = .ok (.iload_n 1, 1) := by decide +kernel
theorem dX5_between_2 : decode cX5_between 2 = .ok (.if_icmp .lt 12, 3) := by decide +kernel
theorem dX5_between_5 : decode cX5_between 5 = .ok (.iload_n 0, 1) := by decide +kernel
theorem dX5_between_6 : decode cX5_between 6 = .ok (.iload_n 2, 1) := by decide +kernel
theorem dX5_between_7 : decode cX5_between 7 = .ok (.if_icmp .gt 7, 3) := by decide +kernel
theorem dX5_between_10 : decode cX5_between 10 = .ok (.iconst 1, 1) := by decide +kernel
theorem dX5_between_11 : decode cX5_between 11 = .ok (.goto 4, 3) := by decide +kernel
theorem dX5_between_14 : decode cX5_between 14 = .ok (.iconst 0, 1) := by decide +kernel
theorem dX5_between_15 : decode cX5_between 15 = .ok (.ireturn, 1) := by decide +kernel
theorem dX5_has_0 : decode cX5_has 0 = .ok (.iload_n 0, 1) := by decide +kernel
theorem dX5_has_1 : decode cX5_has 1 = .ok (.iload_n 1, 1) := by decide +kernel
theorem dX5_has_2 : decode cX5_has 2 = .ok (.ishr, 1) := by decide +kernel
theorem dX5_has_3 : decode cX5_has 3 = .ok (.iconst 1, 1) := by decide +kernel
theorem dX5_has_4 : decode cX5_has 4 = .ok (.iand, 1) := by decide +kernel
theorem dX5_has_5 : decode cX5_has 5 = .ok (.iconst 1, 1) := by decide +kernel
theorem dX5_has_6 : decode cX5_has 6 = .ok (.if_icmp .ne 7, 3) := by decide +kernel
theorem dX5_has_9 : decode cX5_has 9 = .ok (.iconst 1, 1) := by decide +kernel
theorem dX5_has_10 : decode cX5_has 10 = .ok (.goto 4, 3) := by decide +kernel
theorem dX5_has_13 : decode cX5_has 13 = .ok (.iconst 0, 1) := by decide +kernel
theorem dX5_has_14 : decode cX5_has 14 = .ok (.ireturn, 1) := by decide +kernel
theorem dX5_without_0 : decode cX5_without 0 = .ok (.iload_n 0, 1) := by decide +kernel
theorem dX5_without_1 : decode cX5_without 1 = .ok (.iconst 1, 1) := by decide +kernel
theorem dX5_without_2 : decode cX5_without 2 = .ok (.iload_n 1, 1) := by decide +kernel
theorem dX5_without_3 : decode cX5_without 3 = .ok (.ishl, 1) := by decide +kernel
theorem dX5_without_4 : decode cX5_without 4 = .ok (.iconst (-1), 1) := by decide +kernel
theorem dX5_without_5 : decode cX5_without 5 = .ok (.ixor, 1) := by decide +kernel
theorem dX5_without_6 : decode cX5_without 6 = .ok (.iand, 1) := by decide +kernel
theorem dX5_without_7 : decode cX5_without 7 = .ok (.ireturn, 1) := by decide +kernel
theorem dX5_bad_0 : decode cX5_bad 0 = .ok (.aload_n 0, 1) := by decide +kernel
theorem dX5_bad_1 : decode cX5_bad 1 = .ok (.bipush (-2), 2) := by decide +kernel
theorem dX5_bad_3 : decode cX5_bad 3 = .ok (.invokevirtual 73, 3) := by decide +kernel
theorem dX5_bad_6 : decode cX5_bad 6 = .ok (.ireturn, 1) := by decide +kernel
theorem dX5_bad__0 : decode cX5_bad_ 0 = .ok (.aload_n 0, 1) := by decide +kernel
theorem dX5_bad__1 : decode cX5_bad_ 1 = .ok (.dup, 1) := by decide +kernel
theorem dX5_bad__2 : decode cX5_bad_ 2 = .ok (.getfield 53, 3) := by decide +kernel
theorem dX5_bad__5 : decode cX5_bad_ 5 = .ok (.iconst 1, 1) := by decide +kernel
theorem dX5_bad__6 : decode cX5_bad_ 6 = .ok (.iadd, 1) := by decide +kernel
theorem dX5_bad__7 : decode cX5_bad_ 7 = .ok (.putfield 53, 3) := by decide +kernel
theorem dX5_bad__10 : decode cX5_bad_ 10 = .ok (.iload_n 1, 1) := by decide +kernel
theorem dX5_bad__11 : decode cX5_bad_ 11 = .ok (.ireturn, 1) := by decide +kernel
theorem dX5_no_0 : decode cX5_no 0 = .ok (.aload_n 0, 1) := by decide +kernel
theorem dX5_no_1 : decode cX5_no 1 = .ok (.dup, 1) := by decide +kernel
theorem dX5_no_2 : decode cX5_no 2 = .ok (.getfield 57, 3) := by decide +kernel
theorem dX5_no_5 : decode cX5_no 5 = .ok (.iconst 1, 1) := by decide +kernel
theorem dX5_no_6 : decode cX5_no 6 = .ok (.iadd, 1) := by decide +kernel
theorem dX5_no_7 : decode cX5_no 7 = .ok (.putfield 57, 3) := by decide +kernel
theorem dX5_no_10 : decode cX5_no 10 = .ok (.bipush (-3), 2) := by decide +kernel
theorem dX5_no_12 : decode cX5_no 12 = .ok (.ireturn, 1) := by decide +kernel
theorem dX5_full_0 : decode cX5_full 0 = .ok (.aload_n 0, 1) := by decide +kernel
theorem dX5_full_1 : decode cX5_full 1 = .ok (.dup, 1) := by decide +kernel
theorem dX5_full_2 : decode cX5_full 2 = .ok (.getfield 60, 3) := by decide +kernel
theorem dX5_full_5 : decode cX5_full 5 = .ok (.iconst 1, 1) := by decide +kernel
theorem dX5_full_6 : decode cX5_full 6 = .ok (.iadd, 1) := by decide +kernel
theorem dX5_full_7 : decode cX5_full 7 = .ok (.putfield 60, 3) := by decide +kernel
theorem dX5_full_10 : decode cX5_full 10 = .ok (.bipush (-4), 2) := by decide +kernel
theorem dX5_full_12 : decode cX5_full 12 = .ok (.ireturn, 1) := by decide +kernel
theorem dX5_goodOf_0 : decode cX5_goodOf 0 = .ok (.iload_n 1, 1) := by decide +kernel
theorem dX5_goodOf_1 : decode cX5_goodOf 1 = .ok (.iconst 5, 1) := by decide +kernel
theorem dX5_goodOf_2 : decode cX5_goodOf 2 = .ok (.iload_n 2, 1) := by decide +kernel
theorem dX5_goodOf_3 : decode cX5_goodOf 3 = .ok (.bipush 10, 2) := by decide +kernel
theorem dX5_goodOf_5 : decode cX5_goodOf 5 = .ok (.idiv, 1) := by decide +kernel
theorem dX5_goodOf_6 : decode cX5_goodOf 6 = .ok (.invokestatic 77, 3) := by decide +kernel
theorem dX5_goodOf_9 : decode cX5_goodOf 9 = .ok (.iadd, 1) := by decide +kernel
theorem dX5_goodOf_10 : decode cX5_goodOf 10 = .ok (.istore_n 3, 1) := by decide +kernel
theorem dX5_goodOf_11 : decode cX5_goodOf 11 = .ok (.iconst 0, 1) := by decide +kernel
theorem dX5_goodOf_12 : decode cX5_goodOf 12 = .ok (.iload_n 1, 1) := by decide +kernel
theorem dX5_goodOf_13 : decode cX5_goodOf 13 = .ok (.iload_n 2, 1) := by decide +kernel
theorem dX5_goodOf_14 : decode cX5_goodOf 14 = .ok (.iconst 5, 1) := by decide +kernel
theorem dX5_goodOf_15 : decode cX5_goodOf 15 = .ok (.idiv, 1) := by decide +kernel
theorem dX5_goodOf_16 : decode cX5_goodOf 16 = .ok (.isub, 1) := by decide +kernel
theorem dX5_goodOf_17 : decode cX5_goodOf 17 = .ok (.invokestatic 83, 3) := by decide +kernel
theorem dX5_goodOf_20 : decode cX5_goodOf 20 = .ok (.istore 4, 2) := by decide +kernel
theorem dX5_goodOf_22 : decode cX5_goodOf 22 = .ok (.iload_n 0, 1) := by decide +kernel
theorem dX5_goodOf_23 : decode cX5_goodOf 23 = .ok (.tableswitch 68 1 5 #[33, 35, 38, 45, 59], 33) := by decide +kernel
theorem dX5_goodOf_56 : decode cX5_goodOf 56 = .ok (.iload_n 3, 1) := by decide +kernel
theorem dX5_goodOf_57 : decode cX5_goodOf 57 = .ok (.ireturn, 1) := by decide +kernel
theorem dX5_goodOf_58 : decode cX5_goodOf 58 = .ok (.iload 4, 2) := by decide +kernel
theorem dX5_goodOf_60 : decode cX5_goodOf 60 = .ok (.ireturn, 1) := by decide +kernel
theorem dX5_goodOf_61 : decode cX5_goodOf 61 = .ok (.iconst 2, 1) := by decide +kernel
theorem dX5_goodOf_62 : decode cX5_goodOf 62 = .ok (.iload 4, 2) := by decide +kernel
theorem dX5_goodOf_64 : decode cX5_goodOf 64 = .ok (.invokestatic 83, 3) := by decide +kernel
theorem dX5_goodOf_67 : decode cX5_goodOf 67 = .ok (.ireturn, 1) := by decide +kernel
theorem dX5_goodOf_68 : decode cX5_goodOf 68 = .ok (.iload_n 2, 1) := by decide +kernel
theorem dX5_goodOf_69 : decode cX5_goodOf 69 = .ok (.bipush 7, 2) := by decide +kernel
theorem dX5_goodOf_71 : decode cX5_goodOf 71 = .ok (.if_icmp .ge 7, 3) := by decide +kernel
theorem dX5_goodOf_74 : decode cX5_goodOf 74 = .ok (.iconst 0, 1) := by decide +kernel
theorem dX5_goodOf_75 : decode cX5_goodOf 75 = .ok (.goto 6, 3) := by decide +kernel
theorem dX5_goodOf_78 : decode cX5_goodOf 78 = .ok (.iload_n 1, 1) := by decide +kernel
theorem dX5_goodOf_79 : decode cX5_goodOf 79 = .ok (.iconst 3, 1) := by decide +kernel
theorem dX5_goodOf_80 : decode cX5_goodOf 80 = .ok (.iadd, 1) := by decide +kernel
theorem dX5_goodOf_81 : decode cX5_goodOf 81 = .ok (.ireturn, 1) := by decide +kernel
theorem dX5_goodOf_82 : decode cX5_goodOf 82 = .ok (.bipush 25, 2) := by decide +kernel
theorem dX5_goodOf_84 : decode cX5_goodOf 84 = .ok (.iconst 2, 1) := by decide +kernel
theorem dX5_goodOf_85 : decode cX5_goodOf 85 = .ok (.iload_n 3, 1) := by decide +kernel
theorem dX5_goodOf_86 : decode cX5_goodOf 86 = .ok (.imul, 1) := by decide +kernel
theorem dX5_goodOf_87 : decode cX5_goodOf 87 = .ok (.invokestatic 77, 3) := by decide +kernel
theorem dX5_goodOf_90 : decode cX5_goodOf 90 = .ok (.ireturn, 1) := by decide +kernel
theorem dX5_goodOf_91 : decode cX5_goodOf 91 = .ok (.iload_n 1, 1) := by decide +kernel
theorem dX5_goodOf_92 : decode cX5_goodOf 92 = .ok (.ireturn, 1) := by decide +kernel
theorem dX5_joyOf_0 : decode cX5_joyOf 0 = .ok (.iconst 0, 1) := by decide +kernel
theorem dX5_joyOf_1 : decode cX5_joyOf 1 = .ok (.bipush 6, 2) := by decide +kernel
theorem dX5_joyOf_3 : decode cX5_joyOf 3 = .ok (.iload_n 2, 1) := by decide +kernel
theorem dX5_joyOf_4 : decode cX5_joyOf 4 = .ok (.iload_n 1, 1) := by decide +kernel
theorem dX5_joyOf_5 : decode cX5_joyOf 5 = .ok (.isub, 1) := by decide +kernel
theorem dX5_joyOf_6 : decode cX5_joyOf 6 = .ok (.invokestatic 86, 3) := by decide +kernel
theorem dX5_joyOf_9 : decode cX5_joyOf 9 = .ok (.isub, 1) := by decide +kernel
theorem dX5_joyOf_10 : decode cX5_joyOf 10 = .ok (.invokestatic 83, 3) := by decide +kernel
theorem dX5_joyOf_13 : decode cX5_joyOf 13 = .ok (.istore_n 3, 1) := by decide +kernel
theorem dX5_joyOf_14 : decode cX5_joyOf 14 = .ok (.iload_n 2, 1) := by decide +kernel
theorem dX5_joyOf_15 : decode cX5_joyOf 15 = .ok (.iload_n 1, 1) := by decide +kernel
theorem dX5_joyOf_16 : decode cX5_joyOf 16 = .ok (.if_icmp .lt 9, 3) := by decide +kernel
theorem dX5_joyOf_19 : decode cX5_joyOf 19 = .ok (.iload_n 3, 1) := by decide +kernel
theorem dX5_joyOf_20 : decode cX5_joyOf 20 = .ok (.iconst 2, 1) := by decide +kernel
theorem dX5_joyOf_21 : decode cX5_joyOf 21 = .ok (.iadd, 1) := by decide +kernel
theorem dX5_joyOf_22 : decode cX5_joyOf 22 = .ok (.goto 4, 3) := by decide +kernel
theorem dX5_joyOf_25 : decode cX5_joyOf 25 = .ok (.iload_n 3, 1) := by decide +kernel
theorem dX5_joyOf_26 : decode cX5_joyOf 26 = .ok (.istore 4, 2) := by decide +kernel
theorem dX5_joyOf_28 : decode cX5_joyOf 28 = .ok (.iconst 3, 1) := by decide +kernel
theorem dX5_joyOf_29 : decode cX5_joyOf 29 = .ok (.iload_n 3, 1) := by decide +kernel
theorem dX5_joyOf_30 : decode cX5_joyOf 30 = .ok (.invokestatic 83, 3) := by decide +kernel
theorem dX5_joyOf_33 : decode cX5_joyOf 33 = .ok (.istore 5, 2) := by decide +kernel
theorem dX5_joyOf_35 : decode cX5_joyOf 35 = .ok (.iload_n 0, 1) := by decide +kernel
theorem dX5_joyOf_36 : decode cX5_joyOf 36 = .ok (.tableswitch 65 1 5 #[36, 39, 42, 49, 60], 36) := by decide +kernel
theorem dX5_joyOf_72 : decode cX5_joyOf 72 = .ok (.iload 4, 2) := by decide +kernel
theorem dX5_joyOf_74 : decode cX5_joyOf 74 = .ok (.ireturn, 1) := by decide +kernel
theorem dX5_joyOf_75 : decode cX5_joyOf 75 = .ok (.iload 5, 2) := by decide +kernel
theorem dX5_joyOf_77 : decode cX5_joyOf 77 = .ok (.ireturn, 1) := by decide +kernel
theorem dX5_joyOf_78 : decode cX5_joyOf 78 = .ok (.iload 4, 2) := by decide +kernel
theorem dX5_joyOf_80 : decode cX5_joyOf 80 = .ok (.iconst 1, 1) := by decide +kernel
theorem dX5_joyOf_81 : decode cX5_joyOf 81 = .ok (.iadd, 1) := by decide +kernel
theorem dX5_joyOf_82 : decode cX5_joyOf 82 = .ok (.iconst 2, 1) := by decide +kernel
theorem dX5_joyOf_83 : decode cX5_joyOf 83 = .ok (.idiv, 1) := by decide +kernel
theorem dX5_joyOf_84 : decode cX5_joyOf 84 = .ok (.ireturn, 1) := by decide +kernel
theorem dX5_joyOf_85 : decode cX5_joyOf 85 = .ok (.iload_n 2, 1) := by decide +kernel
theorem dX5_joyOf_86 : decode cX5_joyOf 86 = .ok (.iconst 4, 1) := by decide +kernel
theorem dX5_joyOf_87 : decode cX5_joyOf 87 = .ok (.if_icmp .ge 7, 3) := by decide +kernel
theorem dX5_joyOf_90 : decode cX5_joyOf 90 = .ok (.iconst 0, 1) := by decide +kernel
theorem dX5_joyOf_91 : decode cX5_joyOf 91 = .ok (.goto 4, 3) := by decide +kernel
theorem dX5_joyOf_94 : decode cX5_joyOf 94 = .ok (.iload_n 3, 1) := by decide +kernel
theorem dX5_joyOf_95 : decode cX5_joyOf 95 = .ok (.ireturn, 1) := by decide +kernel
theorem dX5_joyOf_96 : decode cX5_joyOf 96 = .ok (.iconst 2, 1) := by decide +kernel
theorem dX5_joyOf_97 : decode cX5_joyOf 97 = .ok (.iload 5, 2) := by decide +kernel
theorem dX5_joyOf_99 : decode cX5_joyOf 99 = .ok (.imul, 1) := by decide +kernel
theorem dX5_joyOf_100 : decode cX5_joyOf 100 = .ok (.ireturn, 1) := by decide +kernel
theorem dX5_joyOf_101 : decode cX5_joyOf 101 = .ok (.iload_n 3, 1) := by decide +kernel
theorem dX5_joyOf_102 : decode cX5_joyOf 102 = .ok (.ireturn, 1) := by decide +kernel
theorem dX5_town_0 : decode cX5_town 0 = .ok (.aload_n 0, 1) := by decide +kernel
theorem dX5_town_1 : decode cX5_town 1 = .ok (.getfield 10, 3) := by decide +kernel
theorem dX5_town_4 : decode cX5_town 4 = .ok (.getfield 89, 3) := by decide +kernel
theorem dX5_town_7 : decode cX5_town 7 = .ok (.getfield 92, 3) := by decide +kernel
theorem dX5_town_10 : decode cX5_town 10 = .ok (.istore_n 1, 1) := by decide +kernel
theorem dX5_town_11 : decode cX5_town 11 = .ok (.aload_n 0, 1) := by decide +kernel
theorem dX5_town_12 : decode cX5_town 12 = .ok (.getfield 10, 3) := by decide +kernel
theorem dX5_town_15 : decode cX5_town 15 = .ok (.invokevirtual 95, 3) := by decide +kernel
theorem dX5_town_18 : decode cX5_town 18 = .ok (.iload_n 1, 1) := by decide +kernel
theorem dX5_town_19 : decode cX5_town 19 = .ok (.ireturn, 1) := by decide +kernel
theorem dX5_promise_0 : decode cX5_promise 0 = .ok (.iload_n 1, 1) := by decide +kernel
theorem dX5_promise_1 : decode cX5_promise 1 = .ok (.iconst 0, 1) := by decide +kernel
theorem dX5_promise_2 : decode cX5_promise 2 = .ok (.iconst 5, 1) := by decide +kernel
theorem dX5_promise_3 : decode cX5_promise 3 = .ok (.invokestatic 98, 3) := by decide +kernel
theorem dX5_promise_6 : decode cX5_promise 6 = .ok (.ifCond .eq 13, 3) := by decide +kernel
theorem dX5_promise_9 : decode cX5_promise 9 = .ok (.iload_n 2, 1) := by decide +kernel
theorem dX5_promise_10 : decode cX5_promise 10 = .ok (.iconst 1, 1) := by decide +kernel
theorem dX5_promise_11 : decode cX5_promise 11 = .ok (.bipush 9, 2) := by decide +kernel
theorem dX5_promise_13 : decode cX5_promise 13 = .ok (.invokestatic 98, 3) := by decide +kernel
theorem dX5_promise_16 : decode cX5_promise 16 = .ok (.ifCond .ne 8, 3) := by decide +kernel
theorem dX5_promise_19 : decode cX5_promise 19 = .ok (.aload_n 0, 1) := by decide +kernel
theorem dX5_promise_20 : decode cX5_promise 20 = .ok (.invokevirtual 102, 3) := by decide +kernel
theorem dX5_promise_23 : decode cX5_promise 23 = .ok (.ireturn, 1) := by decide +kernel
theorem dX5_promise_24 : decode cX5_promise 24 = .ok (.aload_n 0, 1) := by decide +kernel
theorem dX5_promise_25 : decode cX5_promise 25 = .ok (.getfield 10, 3) := by decide +kernel
theorem dX5_promise_28 : decode cX5_promise 28 = .ok (.getfield 89, 3) := by decide +kernel
theorem dX5_promise_31 : decode cX5_promise 31 = .ok (.getfield 92, 3) := by decide +kernel
theorem dX5_promise_34 : decode cX5_promise 34 = .ok (.bipush 7, 2) := by decide +kernel
theorem dX5_promise_36 : decode cX5_promise 36 = .ok (.if_icmp .lt 8, 3) := by decide +kernel
theorem dX5_promise_39 : decode cX5_promise 39 = .ok (.aload_n 0, 1) := by decide +kernel
theorem dX5_promise_40 : decode cX5_promise 40 = .ok (.invokevirtual 105, 3) := by decide +kernel
theorem dX5_promise_43 : decode cX5_promise 43 = .ok (.ireturn, 1) := by decide +kernel
theorem dX5_promise_44 : decode cX5_promise 44 = .ok (.aload_n 0, 1) := by decide +kernel
theorem dX5_promise_45 : decode cX5_promise 45 = .ok (.getfield 10, 3) := by decide +kernel
theorem dX5_promise_48 : decode cX5_promise 48 = .ok (.getfield 108, 3) := by decide +kernel
theorem dX5_promise_51 : decode cX5_promise 51 = .ok (.iconst 0, 1) := by decide +kernel
theorem dX5_promise_52 : decode cX5_promise 52 = .ok (.putfield 112, 3) := by decide +kernel
theorem dX5_promise_55 : decode cX5_promise 55 = .ok (.aload_n 0, 1) := by decide +kernel
theorem dX5_promise_56 : decode cX5_promise 56 = .ok (.getfield 10, 3) := by decide +kernel
theorem dX5_promise_59 : decode cX5_promise 59 = .ok (.getfield 89, 3) := by decide +kernel
theorem dX5_promise_62 : decode cX5_promise 62 = .ok (.iload_n 1, 1) := by decide +kernel
theorem dX5_promise_63 : decode cX5_promise 63 = .ok (.iload_n 2, 1) := by decide +kernel
theorem dX5_promise_64 : decode cX5_promise 64 = .ok (.invokevirtual 117, 3) := by decide +kernel
theorem dX5_promise_67 : decode cX5_promise 67 = .ok (.ireturn, 1) := by decide +kernel
theorem dX5_hearer_0 : decode cX5_hearer 0 = .ok (.iload_n 1, 1) := by decide +kernel
theorem dX5_hearer_1 : decode cX5_hearer 1 = .ok (.iconst 0, 1) := by decide +kernel
theorem dX5_hearer_2 : decode cX5_hearer 2 = .ok (.iconst 5, 1) := by decide +kernel
theorem dX5_hearer_3 : decode cX5_hearer 3 = .ok (.invokestatic 98, 3) := by decide +kernel
theorem dX5_hearer_6 : decode cX5_hearer 6 = .ok (.ifCond .eq 13, 3) := by decide +kernel
theorem dX5_hearer_9 : decode cX5_hearer 9 = .ok (.iload_n 2, 1) := by decide +kernel
theorem dX5_hearer_10 : decode cX5_hearer 10 = .ok (.iconst 1, 1) := by decide +kernel
theorem dX5_hearer_11 : decode cX5_hearer 11 = .ok (.bipush 9, 2) := by decide +kernel
theorem dX5_hearer_13 : decode cX5_hearer 13 = .ok (.invokestatic 98, 3) := by decide +kernel
theorem dX5_hearer_16 : decode cX5_hearer 16 = .ok (.ifCond .ne 8, 3) := by decide +kernel
theorem dX5_hearer_19 : decode cX5_hearer 19 = .ok (.aload_n 0, 1) := by decide +kernel
theorem dX5_hearer_20 : decode cX5_hearer 20 = .ok (.invokevirtual 102, 3) := by decide +kernel
theorem dX5_hearer_23 : decode cX5_hearer 23 = .ok (.ireturn, 1) := by decide +kernel
theorem dX5_hearer_24 : decode cX5_hearer 24 = .ok (.aload_n 0, 1) := by decide +kernel
theorem dX5_hearer_25 : decode cX5_hearer 25 = .ok (.getfield 10, 3) := by decide +kernel
theorem dX5_hearer_28 : decode cX5_hearer 28 = .ok (.getfield 89, 3) := by decide +kernel
theorem dX5_hearer_31 : decode cX5_hearer 31 = .ok (.getfield 120, 3) := by decide +kernel
theorem dX5_hearer_34 : decode cX5_hearer 34 = .ok (.iconst 4, 1) := by decide +kernel
theorem dX5_hearer_35 : decode cX5_hearer 35 = .ok (.if_icmp .lt 8, 3) := by decide +kernel
theorem dX5_hearer_38 : decode cX5_hearer 38 = .ok (.aload_n 0, 1) := by decide +kernel
theorem dX5_hearer_39 : decode cX5_hearer 39 = .ok (.invokevirtual 105, 3) := by decide +kernel
theorem dX5_hearer_42 : decode cX5_hearer 42 = .ok (.ireturn, 1) := by decide +kernel
theorem dX5_hearer_43 : decode cX5_hearer 43 = .ok (.aload_n 0, 1) := by decide +kernel
theorem dX5_hearer_44 : decode cX5_hearer 44 = .ok (.getfield 10, 3) := by decide +kernel
theorem dX5_hearer_47 : decode cX5_hearer 47 = .ok (.getfield 108, 3) := by decide +kernel
theorem dX5_hearer_50 : decode cX5_hearer 50 = .ok (.iconst 0, 1) := by decide +kernel
theorem dX5_hearer_51 : decode cX5_hearer 51 = .ok (.putfield 112, 3) := by decide +kernel
theorem dX5_hearer_54 : decode cX5_hearer 54 = .ok (.aload_n 0, 1) := by decide +kernel
theorem dX5_hearer_55 : decode cX5_hearer 55 = .ok (.getfield 10, 3) := by decide +kernel
theorem dX5_hearer_58 : decode cX5_hearer 58 = .ok (.getfield 89, 3) := by decide +kernel
theorem dX5_hearer_61 : decode cX5_hearer 61 = .ok (.iload_n 1, 1) := by decide +kernel
theorem dX5_hearer_62 : decode cX5_hearer 62 = .ok (.iload_n 2, 1) := by decide +kernel
theorem dX5_hearer_63 : decode cX5_hearer 63 = .ok (.invokevirtual 123, 3) := by decide +kernel
theorem dX5_hearer_66 : decode cX5_hearer 66 = .ok (.ireturn, 1) := by decide +kernel
theorem dX5_buyer_0 : decode cX5_buyer 0 = .ok (.iload_n 1, 1) := by decide +kernel
theorem dX5_buyer_1 : decode cX5_buyer 1 = .ok (.iconst 0, 1) := by decide +kernel
theorem dX5_buyer_2 : decode cX5_buyer 2 = .ok (.sipush 999, 3) := by decide +kernel
theorem dX5_buyer_5 : decode cX5_buyer 5 = .ok (.invokestatic 98, 3) := by decide +kernel
theorem dX5_buyer_8 : decode cX5_buyer 8 = .ok (.ifCond .ne 8, 3) := by decide +kernel
theorem dX5_buyer_11 : decode cX5_buyer 11 = .ok (.aload_n 0, 1) := by decide +kernel
theorem dX5_buyer_12 : decode cX5_buyer 12 = .ok (.invokevirtual 102, 3) := by decide +kernel
theorem dX5_buyer_15 : decode cX5_buyer 15 = .ok (.ireturn, 1) := by decide +kernel
theorem dX5_buyer_16 : decode cX5_buyer 16 = .ok (.aload_n 0, 1) := by decide +kernel
theorem dX5_buyer_17 : decode cX5_buyer 17 = .ok (.getfield 10, 3) := by decide +kernel
theorem dX5_buyer_20 : decode cX5_buyer 20 = .ok (.getfield 89, 3) := by decide +kernel
theorem dX5_buyer_23 : decode cX5_buyer 23 = .ok (.getfield 126, 3) := by decide +kernel
theorem dX5_buyer_26 : decode cX5_buyer 26 = .ok (.iconst 3, 1) := by decide +kernel
theorem dX5_buyer_27 : decode cX5_buyer 27 = .ok (.if_icmp .lt 8, 3) := by decide +kernel
theorem dX5_buyer_30 : decode cX5_buyer 30 = .ok (.aload_n 0, 1) := by decide +kernel
theorem dX5_buyer_31 : decode cX5_buyer 31 = .ok (.invokevirtual 105, 3) := by decide +kernel
theorem dX5_buyer_34 : decode cX5_buyer 34 = .ok (.ireturn, 1) := by decide +kernel
theorem dX5_buyer_35 : decode cX5_buyer 35 = .ok (.aload_n 0, 1) := by decide +kernel
theorem dX5_buyer_36 : decode cX5_buyer 36 = .ok (.getfield 10, 3) := by decide +kernel
theorem dX5_buyer_39 : decode cX5_buyer 39 = .ok (.getfield 108, 3) := by decide +kernel
theorem dX5_buyer_42 : decode cX5_buyer 42 = .ok (.iconst 0, 1) := by decide +kernel
theorem dX5_buyer_43 : decode cX5_buyer 43 = .ok (.putfield 112, 3) := by decide +kernel
theorem dX5_buyer_46 : decode cX5_buyer 46 = .ok (.aload_n 0, 1) := by decide +kernel
theorem dX5_buyer_47 : decode cX5_buyer 47 = .ok (.getfield 10, 3) := by decide +kernel
theorem dX5_buyer_50 : decode cX5_buyer 50 = .ok (.getfield 89, 3) := by decide +kernel
theorem dX5_buyer_53 : decode cX5_buyer 53 = .ok (.iload_n 1, 1) := by decide +kernel
theorem dX5_buyer_54 : decode cX5_buyer 54 = .ok (.invokevirtual 129, 3) := by decide +kernel
theorem dX5_buyer_57 : decode cX5_buyer 57 = .ok (.ireturn, 1) := by decide +kernel
theorem dX5_type_0 : decode cX5_type 0 = .ok (.iload_n 1, 1) := by decide +kernel
theorem dX5_type_1 : decode cX5_type 1 = .ok (.iconst 0, 1) := by decide +kernel
theorem dX5_type_2 : decode cX5_type 2 = .ok (.bipush 127, 2) := by decide +kernel
theorem dX5_type_4 : decode cX5_type 4 = .ok (.invokestatic 98, 3) := by decide +kernel
theorem dX5_type_7 : decode cX5_type 7 = .ok (.ifCond .ne 8, 3) := by decide +kernel
theorem dX5_type_10 : decode cX5_type 10 = .ok (.aload_n 0, 1) := by decide +kernel
theorem dX5_type_11 : decode cX5_type 11 = .ok (.invokevirtual 102, 3) := by decide +kernel
theorem dX5_type_14 : decode cX5_type 14 = .ok (.ireturn, 1) := by decide +kernel
theorem dX5_type_15 : decode cX5_type 15 = .ok (.aload_n 0, 1) := by decide +kernel
theorem dX5_type_16 : decode cX5_type 16 = .ok (.getfield 25, 3) := by decide +kernel
theorem dX5_type_19 : decode cX5_type 19 = .ok (.getfield 132, 3) := by decide +kernel
theorem dX5_type_22 : decode cX5_type 22 = .ok (.sipush 150, 3) := by decide +kernel
theorem dX5_type_25 : decode cX5_type 25 = .ok (.if_icmp .lt 8, 3) := by decide +kernel
theorem dX5_type_28 : decode cX5_type 28 = .ok (.aload_n 0, 1) := by decide +kernel
theorem dX5_type_29 : decode cX5_type 29 = .ok (.invokevirtual 105, 3) := by decide +kernel
theorem dX5_type_32 : decode cX5_type 32 = .ok (.ireturn, 1) := by decide +kernel
theorem dX5_type_33 : decode cX5_type 33 = .ok (.aload_n 0, 1) := by decide +kernel
theorem dX5_type_34 : decode cX5_type 34 = .ok (.getfield 25, 3) := by decide +kernel
theorem dX5_type_37 : decode cX5_type 37 = .ok (.getfield 135, 3) := by decide +kernel
theorem dX5_type_40 : decode cX5_type 40 = .ok (.aload_n 0, 1) := by decide +kernel
theorem dX5_type_41 : decode cX5_type 41 = .ok (.getfield 25, 3) := by decide +kernel
theorem dX5_type_44 : decode cX5_type 44 = .ok (.getfield 132, 3) := by decide +kernel
theorem dX5_type_47 : decode cX5_type 47 = .ok (.iload_n 1, 1) := by decide +kernel
theorem dX5_type_48 : decode cX5_type 48 = .ok (.invokestatic 138, 3) := by decide +kernel
theorem dX5_type_51 : decode cX5_type 51 = .ok (.aload_n 0, 1) := by decide +kernel
theorem dX5_type_52 : decode cX5_type 52 = .ok (.getfield 25, 3) := by decide +kernel
theorem dX5_type_55 : decode cX5_type 55 = .ok (.dup, 1) := by decide +kernel
theorem dX5_type_56 : decode cX5_type 56 = .ok (.getfield 132, 3) := by decide +kernel
theorem dX5_type_59 : decode cX5_type 59 = .ok (.iconst 1, 1) := by decide +kernel
theorem dX5_type_60 : decode cX5_type 60 = .ok (.iadd, 1) := by decide +kernel
theorem dX5_type_61 : decode cX5_type 61 = .ok (.putfield 132, 3) := by decide +kernel
theorem dX5_type_64 : decode cX5_type 64 = .ok (.aload_n 0, 1) := by decide +kernel
theorem dX5_type_65 : decode cX5_type 65 = .ok (.getfield 25, 3) := by decide +kernel
theorem dX5_type_68 : decode cX5_type 68 = .ok (.getfield 132, 3) := by decide +kernel
theorem dX5_type_71 : decode cX5_type 71 = .ok (.ireturn, 1) := by decide +kernel
theorem dX5_clear_0 : decode cX5_clear 0 = .ok (.aload_n 0, 1) := by decide +kernel
theorem dX5_clear_1 : decode cX5_clear 1 = .ok (.getfield 25, 3) := by decide +kernel
theorem dX5_clear_4 : decode cX5_clear 4 = .ok (.getfield 132, 3) := by decide +kernel
theorem dX5_clear_7 : decode cX5_clear 7 = .ok (.istore_n 1, 1) := by decide +kernel
theorem dX5_clear_8 : decode cX5_clear 8 = .ok (.aload_n 0, 1) := by decide +kernel
theorem dX5_clear_9 : decode cX5_clear 9 = .ok (.getfield 25, 3) := by decide +kernel
theorem dX5_clear_12 : decode cX5_clear 12 = .ok (.iconst 0, 1) := by decide +kernel
theorem dX5_clear_13 : decode cX5_clear 13 = .ok (.putfield 132, 3) := by decide +kernel
theorem dX5_clear_16 : decode cX5_clear 16 = .ok (.iload_n 1, 1) := by decide +kernel
theorem dX5_clear_17 : decode cX5_clear 17 = .ok (.ireturn, 1) := by decide +kernel
theorem dX5_read_0 : decode cX5_read 0 = .ok (.aload_n 0, 1) := by decide +kernel
theorem dX5_read_1 : decode cX5_read 1 = .ok (.getfield 25, 3) := by decide +kernel
theorem dX5_read_4 : decode cX5_read 4 = .ok (.invokevirtual 142, 3) := by decide +kernel
theorem dX5_read_7 : decode cX5_read 7 = .ok (.iconst 0, 1) := by decide +kernel
theorem dX5_read_8 : decode cX5_read 8 = .ok (.istore_n 1, 1) := by decide +kernel
theorem dX5_read_9 : decode cX5_read 9 = .ok (.iload_n 1, 1) := by decide +kernel
theorem dX5_read_10 : decode cX5_read 10 = .ok (.sipush 150, 3) := by decide +kernel
theorem dX5_read_13 : decode cX5_read 13 = .ok (.if_icmp .gt 26, 3) := by decide +kernel
theorem dX5_read_16 : decode cX5_read 16 = .ok (.aload_n 0, 1) := by decide +kernel
theorem dX5_read_17 : decode cX5_read 17 = .ok (.getfield 25, 3) := by decide +kernel
theorem dX5_read_20 : decode cX5_read 20 = .ok (.invokevirtual 145, 3) := by decide +kernel
theorem dX5_read_23 : decode cX5_read 23 = .ok (.ifCond .eq 16, 3) := by decide +kernel
theorem dX5_read_26 : decode cX5_read 26 = .ok (.aload_n 0, 1) := by decide +kernel
theorem dX5_read_27 : decode cX5_read 27 = .ok (.getfield 25, 3) := by decide +kernel
theorem dX5_read_30 : decode cX5_read 30 = .ok (.invokevirtual 149, 3) := by decide +kernel
theorem dX5_read_33 : decode cX5_read 33 = .ok (.iinc 1 1, 3) := by decide +kernel
theorem dX5_read_36 : decode cX5_read 36 = .ok (.goto (-27), 3) := by decide +kernel
theorem dX5_read_39 : decode cX5_read 39 = .ok (.aload_n 0, 1) := by decide +kernel
theorem dX5_read_40 : decode cX5_read 40 = .ok (.getfield 25, 3) := by decide +kernel
theorem dX5_read_43 : decode cX5_read 43 = .ok (.getfield 152, 3) := by decide +kernel
theorem dX5_read_46 : decode cX5_read 46 = .ok (.iconst (-1), 1) := by decide +kernel
theorem dX5_read_47 : decode cX5_read 47 = .ok (.if_icmp .eq 14, 3) := by decide +kernel
theorem dX5_read_50 : decode cX5_read 50 = .ok (.bipush (-10), 2) := by decide +kernel
theorem dX5_read_52 : decode cX5_read 52 = .ok (.aload_n 0, 1) := by decide +kernel
theorem dX5_read_53 : decode cX5_read 53 = .ok (.getfield 25, 3) := by decide +kernel
theorem dX5_read_56 : decode cX5_read 56 = .ok (.getfield 152, 3) := by decide +kernel
theorem dX5_read_59 : decode cX5_read 59 = .ok (.isub, 1) := by decide +kernel
theorem dX5_read_60 : decode cX5_read 60 = .ok (.ireturn, 1) := by decide +kernel
theorem dX5_read_61 : decode cX5_read 61 = .ok (.aload_n 0, 1) := by decide +kernel
theorem dX5_read_62 : decode cX5_read 62 = .ok (.getfield 10, 3) := by decide +kernel
theorem dX5_read_65 : decode cX5_read 65 = .ok (.invokevirtual 95, 3) := by decide +kernel
theorem dX5_read_68 : decode cX5_read 68 = .ok (.aload_n 0, 1) := by decide +kernel
theorem dX5_read_69 : decode cX5_read 69 = .ok (.getfield 10, 3) := by decide +kernel
theorem dX5_read_72 : decode cX5_read 72 = .ok (.getfield 89, 3) := by decide +kernel
theorem dX5_read_75 : decode cX5_read 75 = .ok (.aload_n 0, 1) := by decide +kernel
theorem dX5_read_76 : decode cX5_read 76 = .ok (.getfield 25, 3) := by decide +kernel
theorem dX5_read_79 : decode cX5_read 79 = .ok (.getfield 155, 3) := by decide +kernel
theorem dX5_read_82 : decode cX5_read 82 = .ok (.invokevirtual 158, 3) := by decide +kernel
theorem dX5_read_85 : decode cX5_read 85 = .ok (.aload_n 0, 1) := by decide +kernel
theorem dX5_read_86 : decode cX5_read 86 = .ok (.getfield 25, 3) := by decide +kernel
theorem dX5_read_89 : decode cX5_read 89 = .ok (.getfield 162, 3) := by decide +kernel
theorem dX5_read_92 : decode cX5_read 92 = .ok (.ireturn, 1) := by decide +kernel
theorem dX5_days_0 : decode cX5_days 0 = .ok (.iload_n 1, 1) := by decide +kernel
theorem dX5_days_1 : decode cX5_days 1 = .ok (.iconst 1, 1) := by decide +kernel
theorem dX5_days_2 : decode cX5_days 2 = .ok (.bipush 99, 2) := by decide +kernel
theorem dX5_days_4 : decode cX5_days 4 = .ok (.invokestatic 98, 3) := by decide +kernel
theorem dX5_days_7 : decode cX5_days 7 = .ok (.ifCond .ne 8, 3) := by decide +kernel
theorem dX5_days_10 : decode cX5_days 10 = .ok (.aload_n 0, 1) := by decide +kernel
theorem dX5_days_11 : decode cX5_days 11 = .ok (.invokevirtual 102, 3) := by decide +kernel
theorem dX5_days_14 : decode cX5_days 14 = .ok (.ireturn, 1) := by decide +kernel
theorem dX5_days_15 : decode cX5_days 15 = .ok (.aload_n 0, 1) := by decide +kernel
theorem dX5_days_16 : decode cX5_days 16 = .ok (.getfield 10, 3) := by decide +kernel
theorem dX5_days_19 : decode cX5_days 19 = .ok (.getfield 108, 3) := by decide +kernel
theorem dX5_days_22 : decode cX5_days 22 = .ok (.aload_n 0, 1) := by decide +kernel
theorem dX5_days_23 : decode cX5_days 23 = .ok (.getfield 10, 3) := by decide +kernel
theorem dX5_days_26 : decode cX5_days 26 = .ok (.getfield 89, 3) := by decide +kernel
theorem dX5_days_29 : decode cX5_days 29 = .ok (.invokevirtual 165, 3) := by decide +kernel
theorem dX5_days_32 : decode cX5_days 32 = .ok (.aload_n 0, 1) := by decide +kernel
theorem dX5_days_33 : decode cX5_days 33 = .ok (.getfield 10, 3) := by decide +kernel
theorem dX5_days_36 : decode cX5_days 36 = .ok (.getfield 89, 3) := by decide +kernel
theorem dX5_days_39 : decode cX5_days 39 = .ok (.iload_n 1, 1) := by decide +kernel
theorem dX5_days_40 : decode cX5_days 40 = .ok (.sipush 9999, 3) := by decide +kernel
theorem dX5_days_43 : decode cX5_days 43 = .ok (.aload_n 0, 1) := by decide +kernel
theorem dX5_days_44 : decode cX5_days 44 = .ok (.getfield 10, 3) := by decide +kernel
theorem dX5_days_47 : decode cX5_days 47 = .ok (.getfield 89, 3) := by decide +kernel
theorem dX5_days_50 : decode cX5_days 50 = .ok (.getfield 168, 3) := by decide +kernel
theorem dX5_days_53 : decode cX5_days 53 = .ok (.isub, 1) := by decide +kernel
theorem dX5_days_54 : decode cX5_days 54 = .ok (.invokestatic 77, 3) := by decide +kernel
theorem dX5_days_57 : decode cX5_days 57 = .ok (.invokevirtual 171, 3) := by decide +kernel
theorem dX5_days_60 : decode cX5_days 60 = .ok (.aload_n 0, 1) := by decide +kernel
theorem dX5_days_61 : decode cX5_days 61 = .ok (.getfield 10, 3) := by decide +kernel
theorem dX5_days_64 : decode cX5_days 64 = .ok (.getfield 89, 3) := by decide +kernel
theorem dX5_days_67 : decode cX5_days 67 = .ok (.getfield 168, 3) := by decide +kernel
theorem dX5_days_70 : decode cX5_days 70 = .ok (.ireturn, 1) := by decide +kernel
theorem dX5_buys_0 : decode cX5_buys 0 = .ok (.aload_n 0, 1) := by decide +kernel
theorem dX5_buys_1 : decode cX5_buys 1 = .ok (.getfield 10, 3) := by decide +kernel
theorem dX5_buys_4 : decode cX5_buys 4 = .ok (.getfield 89, 3) := by decide +kernel
theorem dX5_buys_7 : decode cX5_buys 7 = .ok (.astore_n 3, 1) := by decide +kernel
theorem dX5_buys_8 : decode cX5_buys 8 = .ok (.aload_n 3, 1) := by decide +kernel
theorem dX5_buys_9 : decode cX5_buys 9 = .ok (.iload_n 1, 1) := by decide +kernel
theorem dX5_buys_10 : decode cX5_buys 10 = .ok (.invokevirtual 175, 3) := by decide +kernel
theorem dX5_buys_13 : decode cX5_buys 13 = .ok (.ifCond .eq 11, 3) := by decide +kernel
theorem dX5_buys_16 : decode cX5_buys 16 = .ok (.aload_n 3, 1) := by decide +kernel
theorem dX5_buys_17 : decode cX5_buys 17 = .ok (.iload_n 2, 1) := by decide +kernel
theorem dX5_buys_18 : decode cX5_buys 18 = .ok (.invokevirtual 179, 3) := by decide +kernel
theorem dX5_buys_21 : decode cX5_buys 21 = .ok (.ifCond .ne 8, 3) := by decide +kernel
theorem dX5_buys_24 : decode cX5_buys 24 = .ok (.aload_n 0, 1) := by decide +kernel
theorem dX5_buys_25 : decode cX5_buys 25 = .ok (.invokevirtual 102, 3) := by decide +kernel
theorem dX5_buys_28 : decode cX5_buys 28 = .ok (.ireturn, 1) := by decide +kernel
theorem dX5_buys_29 : decode cX5_buys 29 = .ok (.aload_n 3, 1) := by decide +kernel
theorem dX5_buys_30 : decode cX5_buys 30 = .ok (.iload_n 1, 1) := by decide +kernel
theorem dX5_buys_31 : decode cX5_buys 31 = .ok (.iload_n 2, 1) := by decide +kernel
theorem dX5_buys_32 : decode cX5_buys 32 = .ok (.invokevirtual 182, 3) := by decide +kernel
theorem dX5_buys_35 : decode cX5_buys 35 = .ok (.ifCond .ne 8, 3) := by decide +kernel
theorem dX5_buys_38 : decode cX5_buys 38 = .ok (.aload_n 0, 1) := by decide +kernel
theorem dX5_buys_39 : decode cX5_buys 39 = .ok (.invokevirtual 186, 3) := by decide +kernel
theorem dX5_buys_42 : decode cX5_buys 42 = .ok (.ireturn, 1) := by decide +kernel
theorem dX5_buys_43 : decode cX5_buys 43 = .ok (.aload_n 0, 1) := by decide +kernel
theorem dX5_buys_44 : decode cX5_buys 44 = .ok (.getfield 10, 3) := by decide +kernel
theorem dX5_buys_47 : decode cX5_buys 47 = .ok (.getfield 108, 3) := by decide +kernel
theorem dX5_buys_50 : decode cX5_buys 50 = .ok (.aload_n 3, 1) := by decide +kernel
theorem dX5_buys_51 : decode cX5_buys 51 = .ok (.invokevirtual 165, 3) := by decide +kernel
theorem dX5_buys_54 : decode cX5_buys 54 = .ok (.aload_n 3, 1) := by decide +kernel
theorem dX5_buys_55 : decode cX5_buys 55 = .ok (.iload_n 1, 1) := by decide +kernel
theorem dX5_buys_56 : decode cX5_buys 56 = .ok (.iload_n 2, 1) := by decide +kernel
theorem dX5_buys_57 : decode cX5_buys 57 = .ok (.invokevirtual 189, 3) := by decide +kernel
theorem dX5_buys_60 : decode cX5_buys 60 = .ok (.aload_n 3, 1) := by decide +kernel
theorem dX5_buys_61 : decode cX5_buys 61 = .ok (.getfield 193, 3) := by decide +kernel
theorem dX5_buys_64 : decode cX5_buys 64 = .ok (.iload_n 1, 1) := by decide +kernel
theorem dX5_buys_65 : decode cX5_buys 65 = .ok (.invokestatic 196, 3) := by decide +kernel
theorem dX5_buys_68 : decode cX5_buys 68 = .ok (.ireturn, 1) := by decide +kernel
theorem dX5_keeps_0 : decode cX5_keeps 0 = .ok (.aload_n 0, 1) := by decide +kernel
theorem dX5_keeps_1 : decode cX5_keeps 1 = .ok (.getfield 10, 3) := by decide +kernel
theorem dX5_keeps_4 : decode cX5_keeps 4 = .ok (.getfield 89, 3) := by decide +kernel
theorem dX5_keeps_7 : decode cX5_keeps 7 = .ok (.astore_n 3, 1) := by decide +kernel
theorem dX5_keeps_8 : decode cX5_keeps 8 = .ok (.aload_n 3, 1) := by decide +kernel
theorem dX5_keeps_9 : decode cX5_keeps 9 = .ok (.iload_n 1, 1) := by decide +kernel
theorem dX5_keeps_10 : decode cX5_keeps 10 = .ok (.invokevirtual 179, 3) := by decide +kernel
theorem dX5_keeps_13 : decode cX5_keeps 13 = .ok (.ifCond .eq 11, 3) := by decide +kernel
theorem dX5_keeps_16 : decode cX5_keeps 16 = .ok (.aload_n 3, 1) := by decide +kernel
theorem dX5_keeps_17 : decode cX5_keeps 17 = .ok (.iload_n 2, 1) := by decide +kernel
theorem dX5_keeps_18 : decode cX5_keeps 18 = .ok (.invokevirtual 200, 3) := by decide +kernel
theorem dX5_keeps_21 : decode cX5_keeps 21 = .ok (.ifCond .ne 8, 3) := by decide +kernel
theorem dX5_keeps_24 : decode cX5_keeps 24 = .ok (.aload_n 0, 1) := by decide +kernel
theorem dX5_keeps_25 : decode cX5_keeps 25 = .ok (.invokevirtual 102, 3) := by decide +kernel
theorem dX5_keeps_28 : decode cX5_keeps 28 = .ok (.ireturn, 1) := by decide +kernel
theorem dX5_keeps_29 : decode cX5_keeps 29 = .ok (.aload_n 3, 1) := by decide +kernel
theorem dX5_keeps_30 : decode cX5_keeps 30 = .ok (.iload_n 1, 1) := by decide +kernel
theorem dX5_keeps_31 : decode cX5_keeps 31 = .ok (.invokevirtual 203, 3) := by decide +kernel
theorem dX5_keeps_34 : decode cX5_keeps 34 = .ok (.ifCond .ne 8, 3) := by decide +kernel
theorem dX5_keeps_37 : decode cX5_keeps 37 = .ok (.aload_n 0, 1) := by decide +kernel
theorem dX5_keeps_38 : decode cX5_keeps 38 = .ok (.invokevirtual 186, 3) := by decide +kernel
theorem dX5_keeps_41 : decode cX5_keeps 41 = .ok (.ireturn, 1) := by decide +kernel
theorem dX5_keeps_42 : decode cX5_keeps 42 = .ok (.aload_n 0, 1) := by decide +kernel
theorem dX5_keeps_43 : decode cX5_keeps 43 = .ok (.getfield 10, 3) := by decide +kernel
theorem dX5_keeps_46 : decode cX5_keeps 46 = .ok (.getfield 108, 3) := by decide +kernel
theorem dX5_keeps_49 : decode cX5_keeps 49 = .ok (.aload_n 3, 1) := by decide +kernel
theorem dX5_keeps_50 : decode cX5_keeps 50 = .ok (.invokevirtual 165, 3) := by decide +kernel
theorem dX5_keeps_53 : decode cX5_keeps 53 = .ok (.aload_n 3, 1) := by decide +kernel
theorem dX5_keeps_54 : decode cX5_keeps 54 = .ok (.iload_n 1, 1) := by decide +kernel
theorem dX5_keeps_55 : decode cX5_keeps 55 = .ok (.iload_n 2, 1) := by decide +kernel
theorem dX5_keeps_56 : decode cX5_keeps 56 = .ok (.invokevirtual 206, 3) := by decide +kernel
theorem dX5_keeps_59 : decode cX5_keeps 59 = .ok (.ireturn, 1) := by decide +kernel
theorem dX5_undo_0 : decode cX5_undo 0 = .ok (.aload_n 0, 1) := by decide +kernel
theorem dX5_undo_1 : decode cX5_undo 1 = .ok (.getfield 10, 3) := by decide +kernel
theorem dX5_undo_4 : decode cX5_undo 4 = .ok (.getfield 108, 3) := by decide +kernel
theorem dX5_undo_7 : decode cX5_undo 7 = .ok (.getfield 112, 3) := by decide +kernel
theorem dX5_undo_10 : decode cX5_undo 10 = .ok (.ifCond .ne 8, 3) := by decide +kernel
theorem dX5_undo_13 : decode cX5_undo 13 = .ok (.aload_n 0, 1) := by decide +kernel
theorem dX5_undo_14 : decode cX5_undo 14 = .ok (.invokevirtual 186, 3) := by decide +kernel
theorem dX5_undo_17 : decode cX5_undo 17 = .ok (.ireturn, 1) := by decide +kernel
theorem dX5_undo_18 : decode cX5_undo 18 = .ok (.aload_n 0, 1) := by decide +kernel
theorem dX5_undo_19 : decode cX5_undo 19 = .ok (.getfield 10, 3) := by decide +kernel
theorem dX5_undo_22 : decode cX5_undo 22 = .ok (.getfield 108, 3) := by decide +kernel
theorem dX5_undo_25 : decode cX5_undo 25 = .ok (.aload_n 0, 1) := by decide +kernel
theorem dX5_undo_26 : decode cX5_undo 26 = .ok (.getfield 10, 3) := by decide +kernel
theorem dX5_undo_29 : decode cX5_undo 29 = .ok (.getfield 89, 3) := by decide +kernel
theorem dX5_undo_32 : decode cX5_undo 32 = .ok (.invokevirtual 209, 3) := by decide +kernel
theorem dX5_undo_35 : decode cX5_undo 35 = .ok (.aload_n 0, 1) := by decide +kernel
theorem dX5_undo_36 : decode cX5_undo 36 = .ok (.getfield 10, 3) := by decide +kernel
theorem dX5_undo_39 : decode cX5_undo 39 = .ok (.getfield 89, 3) := by decide +kernel
theorem dX5_undo_42 : decode cX5_undo 42 = .ok (.getfield 168, 3) := by decide +kernel
theorem dX5_undo_45 : decode cX5_undo 45 = .ok (.ireturn, 1) := by decide +kernel
theorem dX5_of_0 : decode cX5_of 0 = .ok (.aload_n 0, 1) := by decide +kernel
theorem dX5_of_1 : decode cX5_of 1 = .ok (.getfield 10, 3) := by decide +kernel
theorem dX5_of_4 : decode cX5_of 4 = .ok (.getfield 89, 3) := by decide +kernel
theorem dX5_of_7 : decode cX5_of 7 = .ok (.astore_n 3, 1) := by decide +kernel
theorem dX5_of_8 : decode cX5_of 8 = .ok (.aload_n 3, 1) := by decide +kernel
theorem dX5_of_9 : decode cX5_of 9 = .ok (.iload_n 1, 1) := by decide +kernel
theorem dX5_of_10 : decode cX5_of 10 = .ok (.invokevirtual 179, 3) := by decide +kernel
theorem dX5_of_13 : decode cX5_of 13 = .ok (.ifCond .ne 8, 3) := by decide +kernel
theorem dX5_of_16 : decode cX5_of 16 = .ok (.aload_n 0, 1) := by decide +kernel
theorem dX5_of_17 : decode cX5_of 17 = .ok (.invokevirtual 102, 3) := by decide +kernel
theorem dX5_of_20 : decode cX5_of 20 = .ok (.ireturn, 1) := by decide +kernel
theorem dX5_of_21 : decode cX5_of 21 = .ok (.iload_n 2, 1) := by decide +kernel
theorem dX5_of_22 : decode cX5_of 22 = .ok (.tableswitch 87 0 5 #[38, 47, 56, 65, 74, 81], 38) := by decide +kernel
theorem dX5_of_60 : decode cX5_of 60 = .ok (.aload_n 3, 1) := by decide +kernel
theorem dX5_of_61 : decode cX5_of 61 = .ok (.getfield 212, 3) := by decide +kernel
theorem dX5_of_64 : decode cX5_of 64 = .ok (.iload_n 1, 1) := by decide +kernel
theorem dX5_of_65 : decode cX5_of 65 = .ok (.invokestatic 196, 3) := by decide +kernel
theorem dX5_of_68 : decode cX5_of 68 = .ok (.ireturn, 1) := by decide +kernel
theorem dX5_of_69 : decode cX5_of 69 = .ok (.aload_n 3, 1) := by decide +kernel
theorem dX5_of_70 : decode cX5_of 70 = .ok (.getfield 215, 3) := by decide +kernel
theorem dX5_of_73 : decode cX5_of 73 = .ok (.iload_n 1, 1) := by decide +kernel
theorem dX5_of_74 : decode cX5_of 74 = .ok (.invokestatic 196, 3) := by decide +kernel
theorem dX5_of_77 : decode cX5_of 77 = .ok (.ireturn, 1) := by decide +kernel
theorem dX5_of_78 : decode cX5_of 78 = .ok (.aload_n 3, 1) := by decide +kernel
theorem dX5_of_79 : decode cX5_of 79 = .ok (.getfield 218, 3) := by decide +kernel
theorem dX5_of_82 : decode cX5_of 82 = .ok (.iload_n 1, 1) := by decide +kernel
theorem dX5_of_83 : decode cX5_of 83 = .ok (.invokestatic 196, 3) := by decide +kernel
theorem dX5_of_86 : decode cX5_of 86 = .ok (.ireturn, 1) := by decide +kernel
theorem dX5_of_87 : decode cX5_of 87 = .ok (.aload_n 3, 1) := by decide +kernel
theorem dX5_of_88 : decode cX5_of 88 = .ok (.getfield 221, 3) := by decide +kernel
theorem dX5_of_91 : decode cX5_of 91 = .ok (.iload_n 1, 1) := by decide +kernel
theorem dX5_of_92 : decode cX5_of 92 = .ok (.invokestatic 196, 3) := by decide +kernel
theorem dX5_of_95 : decode cX5_of 95 = .ok (.ireturn, 1) := by decide +kernel
theorem dX5_of_96 : decode cX5_of 96 = .ok (.aload_n 3, 1) := by decide +kernel
theorem dX5_of_97 : decode cX5_of 97 = .ok (.iload_n 1, 1) := by decide +kernel
theorem dX5_of_98 : decode cX5_of 98 = .ok (.iconst 0, 1) := by decide +kernel
theorem dX5_of_99 : decode cX5_of 99 = .ok (.invokevirtual 224, 3) := by decide +kernel
theorem dX5_of_102 : decode cX5_of 102 = .ok (.ireturn, 1) := by decide +kernel
theorem dX5_of_103 : decode cX5_of 103 = .ok (.aload_n 3, 1) := by decide +kernel
theorem dX5_of_104 : decode cX5_of 104 = .ok (.iload_n 1, 1) := by decide +kernel
theorem dX5_of_105 : decode cX5_of 105 = .ok (.invokevirtual 227, 3) := by decide +kernel
theorem dX5_of_108 : decode cX5_of 108 = .ok (.ireturn, 1) := by decide +kernel
theorem dX5_of_109 : decode cX5_of 109 = .ok (.aload_n 0, 1) := by decide +kernel
theorem dX5_of_110 : decode cX5_of 110 = .ok (.invokevirtual 102, 3) := by decide +kernel
theorem dX5_of_113 : decode cX5_of 113 = .ok (.ireturn, 1) := by decide +kernel
theorem dX5_about_0 : decode cX5_about 0 = .ok (.aload_n 0, 1) := by decide +kernel
theorem dX5_about_1 : decode cX5_about 1 = .ok (.getfield 10, 3) := by decide +kernel
theorem dX5_about_4 : decode cX5_about 4 = .ok (.getfield 89, 3) := by decide +kernel
theorem dX5_about_7 : decode cX5_about 7 = .ok (.astore_n 3, 1) := by decide +kernel
theorem dX5_about_8 : decode cX5_about 8 = .ok (.aload_n 3, 1) := by decide +kernel
theorem dX5_about_9 : decode cX5_about 9 = .ok (.iload_n 1, 1) := by decide +kernel
theorem dX5_about_10 : decode cX5_about 10 = .ok (.invokevirtual 200, 3) := by decide +kernel
theorem dX5_about_13 : decode cX5_about 13 = .ok (.ifCond .ne 8, 3) := by decide +kernel
theorem dX5_about_16 : decode cX5_about 16 = .ok (.aload_n 0, 1) := by decide +kernel
theorem dX5_about_17 : decode cX5_about 17 = .ok (.invokevirtual 102, 3) := by decide +kernel
theorem dX5_about_20 : decode cX5_about 20 = .ok (.ireturn, 1) := by decide +kernel
theorem dX5_about_21 : decode cX5_about 21 = .ok (.iload_n 2, 1) := by decide +kernel
theorem dX5_about_22 : decode cX5_about 22 = .ok (.tableswitch 53 0 2 #[26, 35, 44], 26) := by decide +kernel
theorem dX5_about_48 : decode cX5_about 48 = .ok (.aload_n 3, 1) := by decide +kernel
theorem dX5_about_49 : decode cX5_about 49 = .ok (.getfield 230, 3) := by decide +kernel
theorem dX5_about_52 : decode cX5_about 52 = .ok (.iload_n 1, 1) := by decide +kernel
theorem dX5_about_53 : decode cX5_about 53 = .ok (.invokestatic 196, 3) := by decide +kernel
theorem dX5_about_56 : decode cX5_about 56 = .ok (.ireturn, 1) := by decide +kernel
theorem dX5_about_57 : decode cX5_about 57 = .ok (.aload_n 3, 1) := by decide +kernel
theorem dX5_about_58 : decode cX5_about 58 = .ok (.getfield 233, 3) := by decide +kernel
theorem dX5_about_61 : decode cX5_about 61 = .ok (.iload_n 1, 1) := by decide +kernel
theorem dX5_about_62 : decode cX5_about 62 = .ok (.invokestatic 196, 3) := by decide +kernel
theorem dX5_about_65 : decode cX5_about 65 = .ok (.ireturn, 1) := by decide +kernel
theorem dX5_about_66 : decode cX5_about 66 = .ok (.aload_n 3, 1) := by decide +kernel
theorem dX5_about_67 : decode cX5_about 67 = .ok (.bipush 10, 2) := by decide +kernel
theorem dX5_about_69 : decode cX5_about 69 = .ok (.iload_n 1, 1) := by decide +kernel
theorem dX5_about_70 : decode cX5_about 70 = .ok (.iadd, 1) := by decide +kernel
theorem dX5_about_71 : decode cX5_about 71 = .ok (.invokevirtual 236, 3) := by decide +kernel
theorem dX5_about_74 : decode cX5_about 74 = .ok (.ireturn, 1) := by decide +kernel
theorem dX5_about_75 : decode cX5_about 75 = .ok (.aload_n 0, 1) := by decide +kernel
theorem dX5_about_76 : decode cX5_about 76 = .ok (.invokevirtual 102, 3) := by decide +kernel
theorem dX5_about_79 : decode cX5_about 79 = .ok (.ireturn, 1) := by decide +kernel
theorem dX5_purse_0 : decode cX5_purse 0 = .ok (.aload_n 0, 1) := by decide +kernel
theorem dX5_purse_1 : decode cX5_purse 1 = .ok (.getfield 10, 3) := by decide +kernel
theorem dX5_purse_4 : decode cX5_purse 4 = .ok (.getfield 89, 3) := by decide +kernel
theorem dX5_purse_7 : decode cX5_purse 7 = .ok (.astore_n 3, 1) := by decide +kernel
theorem dX5_purse_8 : decode cX5_purse 8 = .ok (.aload_n 3, 1) := by decide +kernel
theorem dX5_purse_9 : decode cX5_purse 9 = .ok (.iload_n 1, 1) := by decide +kernel
theorem dX5_purse_10 : decode cX5_purse 10 = .ok (.invokevirtual 175, 3) := by decide +kernel
theorem dX5_purse_13 : decode cX5_purse 13 = .ok (.ifCond .ne 8, 3) := by decide +kernel
theorem dX5_purse_16 : decode cX5_purse 16 = .ok (.aload_n 0, 1) := by decide +kernel
theorem dX5_purse_17 : decode cX5_purse 17 = .ok (.invokevirtual 102, 3) := by decide +kernel
theorem dX5_purse_20 : decode cX5_purse 20 = .ok (.ireturn, 1) := by decide +kernel
theorem dX5_purse_21 : decode cX5_purse 21 = .ok (.iload_n 2, 1) := by decide +kernel
theorem dX5_purse_22 : decode cX5_purse 22 = .ok (.lookupswitch 43 #[(0, 26), (1, 35)], 26) := by decide +kernel
theorem dX5_purse_48 : decode cX5_purse 48 = .ok (.aload_n 3, 1) := by decide +kernel
theorem dX5_purse_49 : decode cX5_purse 49 = .ok (.getfield 193, 3) := by decide +kernel
theorem dX5_purse_52 : decode cX5_purse 52 = .ok (.iload_n 1, 1) := by decide +kernel
theorem dX5_purse_53 : decode cX5_purse 53 = .ok (.invokestatic 196, 3) := by decide +kernel
theorem dX5_purse_56 : decode cX5_purse 56 = .ok (.ireturn, 1) := by decide +kernel
theorem dX5_purse_57 : decode cX5_purse 57 = .ok (.aload_n 3, 1) := by decide +kernel
theorem dX5_purse_58 : decode cX5_purse 58 = .ok (.iconst 1, 1) := by decide +kernel
theorem dX5_purse_59 : decode cX5_purse 59 = .ok (.iload_n 1, 1) := by decide +kernel
theorem dX5_purse_60 : decode cX5_purse 60 = .ok (.iadd, 1) := by decide +kernel
theorem dX5_purse_61 : decode cX5_purse 61 = .ok (.invokevirtual 236, 3) := by decide +kernel
theorem dX5_purse_64 : decode cX5_purse 64 = .ok (.ireturn, 1) := by decide +kernel
theorem dX5_purse_65 : decode cX5_purse 65 = .ok (.aload_n 0, 1) := by decide +kernel
theorem dX5_purse_66 : decode cX5_purse 66 = .ok (.invokevirtual 102, 3) := by decide +kernel
theorem dX5_purse_69 : decode cX5_purse 69 = .ok (.ireturn, 1) := by decide +kernel
theorem dX5_good_0 : decode cX5_good 0 = .ok (.aload_n 0, 1) := by decide +kernel
theorem dX5_good_1 : decode cX5_good 1 = .ok (.getfield 10, 3) := by decide +kernel
theorem dX5_good_4 : decode cX5_good 4 = .ok (.getfield 89, 3) := by decide +kernel
theorem dX5_good_7 : decode cX5_good 7 = .ok (.iload_n 1, 1) := by decide +kernel
theorem dX5_good_8 : decode cX5_good 8 = .ok (.invokevirtual 179, 3) := by decide +kernel
theorem dX5_good_11 : decode cX5_good 11 = .ok (.ifCond .eq 13, 3) := by decide +kernel
theorem dX5_good_14 : decode cX5_good 14 = .ok (.iload_n 2, 1) := by decide +kernel
theorem dX5_good_15 : decode cX5_good 15 = .ok (.iconst 0, 1) := by decide +kernel
theorem dX5_good_16 : decode cX5_good 16 = .ok (.bipush 60, 2) := by decide +kernel
theorem dX5_good_18 : decode cX5_good 18 = .ok (.invokestatic 98, 3) := by decide +kernel
theorem dX5_good_21 : decode cX5_good 21 = .ok (.ifCond .ne 8, 3) := by decide +kernel
theorem dX5_good_24 : decode cX5_good 24 = .ok (.aload_n 0, 1) := by decide +kernel
theorem dX5_good_25 : decode cX5_good 25 = .ok (.invokevirtual 102, 3) := by decide +kernel
theorem dX5_good_28 : decode cX5_good 28 = .ok (.ireturn, 1) := by decide +kernel
theorem dX5_good_29 : decode cX5_good 29 = .ok (.aload_n 0, 1) := by decide +kernel
theorem dX5_good_30 : decode cX5_good 30 = .ok (.getfield 10, 3) := by decide +kernel
theorem dX5_good_33 : decode cX5_good 33 = .ok (.getfield 89, 3) := by decide +kernel
theorem dX5_good_36 : decode cX5_good 36 = .ok (.iload_n 1, 1) := by decide +kernel
theorem dX5_good_37 : decode cX5_good 37 = .ok (.iload_n 2, 1) := by decide +kernel
theorem dX5_good_38 : decode cX5_good 38 = .ok (.invokevirtual 224, 3) := by decide +kernel
theorem dX5_good_41 : decode cX5_good 41 = .ok (.ireturn, 1) := by decide +kernel
theorem dX5_joy_0 : decode cX5_joy 0 = .ok (.aload_n 0, 1) := by decide +kernel
theorem dX5_joy_1 : decode cX5_joy 1 = .ok (.getfield 10, 3) := by decide +kernel
theorem dX5_joy_4 : decode cX5_joy 4 = .ok (.getfield 89, 3) := by decide +kernel
theorem dX5_joy_7 : decode cX5_joy 7 = .ok (.iload_n 1, 1) := by decide +kernel
theorem dX5_joy_8 : decode cX5_joy 8 = .ok (.invokevirtual 179, 3) := by decide +kernel
theorem dX5_joy_11 : decode cX5_joy 11 = .ok (.ifCond .eq 17, 3) := by decide +kernel
theorem dX5_joy_14 : decode cX5_joy 14 = .ok (.aload_n 0, 1) := by decide +kernel
theorem dX5_joy_15 : decode cX5_joy 15 = .ok (.getfield 10, 3) := by decide +kernel
theorem dX5_joy_18 : decode cX5_joy 18 = .ok (.getfield 89, 3) := by decide +kernel
theorem dX5_joy_21 : decode cX5_joy 21 = .ok (.iload_n 2, 1) := by decide +kernel
theorem dX5_joy_22 : decode cX5_joy 22 = .ok (.invokevirtual 200, 3) := by decide +kernel
theorem dX5_joy_25 : decode cX5_joy 25 = .ok (.ifCond .ne 8, 3) := by decide +kernel
theorem dX5_joy_28 : decode cX5_joy 28 = .ok (.aload_n 0, 1) := by decide +kernel
theorem dX5_joy_29 : decode cX5_joy 29 = .ok (.invokevirtual 102, 3) := by decide +kernel
theorem dX5_joy_32 : decode cX5_joy 32 = .ok (.ireturn, 1) := by decide +kernel
theorem dX5_joy_33 : decode cX5_joy 33 = .ok (.aload_n 0, 1) := by decide +kernel
theorem dX5_joy_34 : decode cX5_joy 34 = .ok (.getfield 10, 3) := by decide +kernel
theorem dX5_joy_37 : decode cX5_joy 37 = .ok (.getfield 89, 3) := by decide +kernel
theorem dX5_joy_40 : decode cX5_joy 40 = .ok (.iload_n 1, 1) := by decide +kernel
theorem dX5_joy_41 : decode cX5_joy 41 = .ok (.iload_n 2, 1) := by decide +kernel
theorem dX5_joy_42 : decode cX5_joy 42 = .ok (.invokevirtual 239, 3) := by decide +kernel
theorem dX5_joy_45 : decode cX5_joy 45 = .ok (.ireturn, 1) := by decide +kernel
theorem dX5_when_0 : decode cX5_when 0 = .ok (.aload_n 0, 1) := by decide +kernel
theorem dX5_when_1 : decode cX5_when 1 = .ok (.getfield 10, 3) := by decide +kernel
theorem dX5_when_4 : decode cX5_when 4 = .ok (.getfield 89, 3) := by decide +kernel
theorem dX5_when_7 : decode cX5_when 7 = .ok (.iload_n 1, 1) := by decide +kernel
theorem dX5_when_8 : decode cX5_when 8 = .ok (.invokevirtual 179, 3) := by decide +kernel
theorem dX5_when_11 : decode cX5_when 11 = .ok (.ifCond .eq 13, 3) := by decide +kernel
theorem dX5_when_14 : decode cX5_when 14 = .ok (.iload_n 2, 1) := by decide +kernel
theorem dX5_when_15 : decode cX5_when 15 = .ok (.iconst 1, 1) := by decide +kernel
theorem dX5_when_16 : decode cX5_when 16 = .ok (.bipush 30, 2) := by decide +kernel
theorem dX5_when_18 : decode cX5_when 18 = .ok (.invokestatic 98, 3) := by decide +kernel
theorem dX5_when_21 : decode cX5_when 21 = .ok (.ifCond .ne 8, 3) := by decide +kernel
theorem dX5_when_24 : decode cX5_when 24 = .ok (.aload_n 0, 1) := by decide +kernel
theorem dX5_when_25 : decode cX5_when 25 = .ok (.invokevirtual 102, 3) := by decide +kernel
theorem dX5_when_28 : decode cX5_when 28 = .ok (.ireturn, 1) := by decide +kernel
theorem dX5_when_29 : decode cX5_when 29 = .ok (.iconst 0, 1) := by decide +kernel
theorem dX5_when_30 : decode cX5_when 30 = .ok (.istore_n 3, 1) := by decide +kernel
theorem dX5_when_31 : decode cX5_when 31 = .ok (.iload_n 3, 1) := by decide +kernel
theorem dX5_when_32 : decode cX5_when 32 = .ok (.bipush 60, 2) := by decide +kernel
theorem dX5_when_34 : decode cX5_when 34 = .ok (.if_icmp .gt 27, 3) := by decide +kernel
theorem dX5_when_37 : decode cX5_when 37 = .ok (.aload_n 0, 1) := by decide +kernel
theorem dX5_when_38 : decode cX5_when 38 = .ok (.getfield 10, 3) := by decide +kernel
theorem dX5_when_41 : decode cX5_when 41 = .ok (.getfield 89, 3) := by decide +kernel
theorem dX5_when_44 : decode cX5_when 44 = .ok (.iload_n 1, 1) := by decide +kernel
theorem dX5_when_45 : decode cX5_when 45 = .ok (.iload_n 3, 1) := by decide +kernel
theorem dX5_when_46 : decode cX5_when 46 = .ok (.invokevirtual 224, 3) := by decide +kernel
theorem dX5_when_49 : decode cX5_when 49 = .ok (.iload_n 2, 1) := by decide +kernel
theorem dX5_when_50 : decode cX5_when 50 = .ok (.if_icmp .lt 5, 3) := by decide +kernel
theorem dX5_when_53 : decode cX5_when 53 = .ok (.iload_n 3, 1) := by decide +kernel
theorem dX5_when_54 : decode cX5_when 54 = .ok (.ireturn, 1) := by decide +kernel
theorem dX5_when_55 : decode cX5_when 55 = .ok (.iinc 3 1, 3) := by decide +kernel
theorem dX5_when_58 : decode cX5_when 58 = .ok (.goto (-27), 3) := by decide +kernel
theorem dX5_when_61 : decode cX5_when 61 = .ok (.iconst (-1), 1) := by decide +kernel
theorem dX5_when_62 : decode cX5_when 62 = .ok (.ireturn, 1) := by decide +kernel
theorem dX5_waits_0 : decode cX5_waits 0 = .ok (.aload_n 0, 1) := by decide +kernel
theorem dX5_waits_1 : decode cX5_waits 1 = .ok (.getfield 10, 3) := by decide +kernel
theorem dX5_waits_4 : decode cX5_waits 4 = .ok (.getfield 89, 3) := by decide +kernel
theorem dX5_waits_7 : decode cX5_waits 7 = .ok (.invokevirtual 242, 3) := by decide +kernel
theorem dX5_waits_10 : decode cX5_waits 10 = .ok (.ireturn, 1) := by decide +kernel
theorem dX5_fit_0 : decode cX5_fit 0 = .ok (.aload_n 0, 1) := by decide +kernel
theorem dX5_fit_1 : decode cX5_fit 1 = .ok (.getfield 10, 3) := by decide +kernel
theorem dX5_fit_4 : decode cX5_fit 4 = .ok (.getfield 89, 3) := by decide +kernel
theorem dX5_fit_7 : decode cX5_fit 7 = .ok (.astore_n 2, 1) := by decide +kernel
theorem dX5_fit_8 : decode cX5_fit 8 = .ok (.iload_n 1, 1) := by decide +kernel
theorem dX5_fit_9 : decode cX5_fit 9 = .ok (.iconst (-1), 1) := by decide +kernel
theorem dX5_fit_10 : decode cX5_fit 10 = .ok (.if_icmp .eq 18, 3) := by decide +kernel
theorem dX5_fit_13 : decode cX5_fit 13 = .ok (.aload_n 2, 1) := by decide +kernel
theorem dX5_fit_14 : decode cX5_fit 14 = .ok (.iload_n 1, 1) := by decide +kernel
theorem dX5_fit_15 : decode cX5_fit 15 = .ok (.invokevirtual 200, 3) := by decide +kernel
theorem dX5_fit_18 : decode cX5_fit 18 = .ok (.ifCond .ne 10, 3) := by decide +kernel
theorem dX5_fit_21 : decode cX5_fit 21 = .ok (.aload_n 0, 1) := by decide +kernel
theorem dX5_fit_22 : decode cX5_fit 22 = .ok (.bipush (-10), 2) := by decide +kernel
theorem dX5_fit_24 : decode cX5_fit 24 = .ok (.invokevirtual 73, 3) := by decide +kernel
theorem dX5_fit_27 : decode cX5_fit 27 = .ok (.ireturn, 1) := by decide +kernel
theorem dX5_fit_28 : decode cX5_fit 28 = .ok (.aload_n 0, 1) := by decide +kernel
theorem dX5_fit_29 : decode cX5_fit 29 = .ok (.invokevirtual 245, 3) := by decide +kernel
theorem dX5_fit_32 : decode cX5_fit 32 = .ok (.aload_n 2, 1) := by decide +kernel
theorem dX5_fit_33 : decode cX5_fit 33 = .ok (.iconst 0, 1) := by decide +kernel
theorem dX5_fit_34 : decode cX5_fit 34 = .ok (.invokevirtual 236, 3) := by decide +kernel
theorem dX5_fit_37 : decode cX5_fit 37 = .ok (.istore_n 3, 1) := by decide +kernel
theorem dX5_fit_38 : decode cX5_fit 38 = .ok (.iload_n 1, 1) := by decide +kernel
theorem dX5_fit_39 : decode cX5_fit 39 = .ok (.iconst (-1), 1) := by decide +kernel
theorem dX5_fit_40 : decode cX5_fit 40 = .ok (.if_icmp .ne 17, 3) := by decide +kernel
theorem dX5_fit_43 : decode cX5_fit 43 = .ok (.aload_n 0, 1) := by decide +kernel
theorem dX5_fit_44 : decode cX5_fit 44 = .ok (.getfield 36, 3) := by decide +kernel
theorem dX5_fit_47 : decode cX5_fit 47 = .ok (.aload_n 2, 1) := by decide +kernel
theorem dX5_fit_48 : decode cX5_fit 48 = .ok (.getfield 120, 3) := by decide +kernel
theorem dX5_fit_51 : decode cX5_fit 51 = .ok (.iconst 0, 1) := by decide +kernel
theorem dX5_fit_52 : decode cX5_fit 52 = .ok (.iload_n 3, 1) := by decide +kernel
theorem dX5_fit_53 : decode cX5_fit 53 = .ok (.invokestatic 248, 3) := by decide +kernel
theorem dX5_fit_56 : decode cX5_fit 56 = .ok (.ireturn, 1) := by decide +kernel
theorem dX5_fit_57 : decode cX5_fit 57 = .ok (.iconst (-1), 1) := by decide +kernel
theorem dX5_fit_58 : decode cX5_fit 58 = .ok (.istore 4, 2) := by decide +kernel
theorem dX5_fit_60 : decode cX5_fit 60 = .ok (.iconst 0, 1) := by decide +kernel
theorem dX5_fit_61 : decode cX5_fit 61 = .ok (.istore 5, 2) := by decide +kernel
theorem dX5_fit_63 : decode cX5_fit 63 = .ok (.iload 5, 2) := by decide +kernel
theorem dX5_fit_65 : decode cX5_fit 65 = .ok (.iload_n 1, 1) := by decide +kernel
theorem dX5_fit_66 : decode cX5_fit 66 = .ok (.if_icmp .gt 31, 3) := by decide +kernel
theorem dX5_fit_69 : decode cX5_fit 69 = .ok (.aload_n 0, 1) := by decide +kernel
theorem dX5_fit_70 : decode cX5_fit 70 = .ok (.iload 5, 2) := by decide +kernel
theorem dX5_fit_72 : decode cX5_fit 72 = .ok (.iload_n 3, 1) := by decide +kernel
theorem dX5_fit_73 : decode cX5_fit 73 = .ok (.invokevirtual 252, 3) := by decide +kernel
theorem dX5_fit_76 : decode cX5_fit 76 = .ok (.istore 4, 2) := by decide +kernel
theorem dX5_fit_78 : decode cX5_fit 78 = .ok (.iload 4, 2) := by decide +kernel
theorem dX5_fit_80 : decode cX5_fit 80 = .ok (.iconst (-1), 1) := by decide +kernel
theorem dX5_fit_81 : decode cX5_fit 81 = .ok (.if_icmp .eq 10, 3) := by decide +kernel
theorem dX5_fit_84 : decode cX5_fit 84 = .ok (.iload_n 3, 1) := by decide +kernel
theorem dX5_fit_85 : decode cX5_fit 85 = .ok (.iload 4, 2) := by decide +kernel
theorem dX5_fit_87 : decode cX5_fit 87 = .ok (.invokestatic 255, 3) := by decide +kernel
theorem dX5_fit_90 : decode cX5_fit 90 = .ok (.istore_n 3, 1) := by decide +kernel
theorem dX5_fit_91 : decode cX5_fit 91 = .ok (.iinc 5 1, 3) := by decide +kernel
theorem dX5_fit_94 : decode cX5_fit 94 = .ok (.goto (-31), 3) := by decide +kernel
theorem dX5_fit_97 : decode cX5_fit 97 = .ok (.iload 4, 2) := by decide +kernel
theorem dX5_fit_99 : decode cX5_fit 99 = .ok (.ireturn, 1) := by decide +kernel
theorem dX5_buy_0 : decode cX5_buy 0 = .ok (.aload_n 0, 1) := by decide +kernel
theorem dX5_buy_1 : decode cX5_buy 1 = .ok (.getfield 10, 3) := by decide +kernel
theorem dX5_buy_4 : decode cX5_buy 4 = .ok (.getfield 89, 3) := by decide +kernel
theorem dX5_buy_7 : decode cX5_buy 7 = .ok (.astore 4, 2) := by decide +kernel
theorem dX5_buy_9 : decode cX5_buy 9 = .ok (.aload 4, 2) := by decide +kernel
theorem dX5_buy_11 : decode cX5_buy 11 = .ok (.iload_n 1, 1) := by decide +kernel
theorem dX5_buy_12 : decode cX5_buy 12 = .ok (.invokevirtual 175, 3) := by decide +kernel
theorem dX5_buy_15 : decode cX5_buy 15 = .ok (.ifCond .eq 21, 3) := by decide +kernel
theorem dX5_buy_18 : decode cX5_buy 18 = .ok (.aload 4, 2) := by decide +kernel
theorem dX5_buy_20 : decode cX5_buy 20 = .ok (.iload_n 2, 1) := by decide +kernel
theorem dX5_buy_21 : decode cX5_buy 21 = .ok (.invokevirtual 200, 3) := by decide +kernel
theorem dX5_buy_24 : decode cX5_buy 24 = .ok (.ifCond .eq 12, 3) := by decide +kernel
theorem dX5_buy_27 : decode cX5_buy 27 = .ok (.iload_n 3, 1) := by decide +kernel
theorem dX5_buy_28 : decode cX5_buy 28 = .ok (.iconst 0, 1) := by decide +kernel
theorem dX5_buy_29 : decode cX5_buy 29 = .ok (.iconst 1, 1) := by decide +kernel
theorem dX5_buy_30 : decode cX5_buy 30 = .ok (.invokestatic 98, 3) := by decide +kernel
theorem dX5_buy_33 : decode cX5_buy 33 = .ok (.ifCond .ne 8, 3) := by decide +kernel
theorem dX5_buy_36 : decode cX5_buy 36 = .ok (.aload_n 0, 1) := by decide +kernel
theorem dX5_buy_37 : decode cX5_buy 37 = .ok (.invokevirtual 102, 3) := by decide +kernel
theorem dX5_buy_40 : decode cX5_buy 40 = .ok (.ireturn, 1) := by decide +kernel
theorem dX5_buy_41 : decode cX5_buy 41 = .ok (.aload_n 0, 1) := by decide +kernel
theorem dX5_buy_42 : decode cX5_buy 42 = .ok (.invokevirtual 245, 3) := by decide +kernel
theorem dX5_buy_45 : decode cX5_buy 45 = .ok (.aload_n 0, 1) := by decide +kernel
theorem dX5_buy_46 : decode cX5_buy 46 = .ok (.aload 4, 2) := by decide +kernel
theorem dX5_buy_48 : decode cX5_buy 48 = .ok (.getfield 193, 3) := by decide +kernel
theorem dX5_buy_51 : decode cX5_buy 51 = .ok (.iload_n 1, 1) := by decide +kernel
theorem dX5_buy_52 : decode cX5_buy 52 = .ok (.invokestatic 196, 3) := by decide +kernel
theorem dX5_buy_55 : decode cX5_buy 55 = .ok (.iload_n 2, 1) := by decide +kernel
theorem dX5_buy_56 : decode cX5_buy 56 = .ok (.aload 4, 2) := by decide +kernel
theorem dX5_buy_58 : decode cX5_buy 58 = .ok (.iconst 0, 1) := by decide +kernel
theorem dX5_buy_59 : decode cX5_buy 59 = .ok (.invokevirtual 236, 3) := by decide +kernel
theorem dX5_buy_62 : decode cX5_buy 62 = .ok (.invokevirtual 258, 3) := by decide +kernel
theorem dX5_buy_65 : decode cX5_buy 65 = .ok (.istore 5, 2) := by decide +kernel
theorem dX5_buy_67 : decode cX5_buy 67 = .ok (.iload_n 3, 1) := by decide +kernel
theorem dX5_buy_68 : decode cX5_buy 68 = .ok (.iconst 1, 1) := by decide +kernel
theorem dX5_buy_69 : decode cX5_buy 69 = .ok (.if_icmp .ne 8, 3) := by decide +kernel
theorem dX5_buy_72 : decode cX5_buy 72 = .ok (.iload 5, 2) := by decide +kernel
theorem dX5_buy_74 : decode cX5_buy 74 = .ok (.goto 16, 3) := by decide +kernel
theorem dX5_buy_77 : decode cX5_buy 77 = .ok (.aload_n 0, 1) := by decide +kernel
theorem dX5_buy_78 : decode cX5_buy 78 = .ok (.getfield 36, 3) := by decide +kernel
theorem dX5_buy_81 : decode cX5_buy 81 = .ok (.iload_n 2, 1) := by decide +kernel
theorem dX5_buy_82 : decode cX5_buy 82 = .ok (.bipush 7, 2) := by decide +kernel
theorem dX5_buy_84 : decode cX5_buy 84 = .ok (.imul, 1) := by decide +kernel
theorem dX5_buy_85 : decode cX5_buy 85 = .ok (.iload 5, 2) := by decide +kernel
theorem dX5_buy_87 : decode cX5_buy 87 = .ok (.invokestatic 262, 3) := by decide +kernel
theorem dX5_buy_90 : decode cX5_buy 90 = .ok (.ireturn, 1) := by decide +kernel
theorem dX5_cheap_0 : decode cX5_cheap 0 = .ok (.aload_n 0, 1) := by decide +kernel
theorem dX5_cheap_1 : decode cX5_cheap 1 = .ok (.invokevirtual 245, 3) := by decide +kernel
theorem dX5_cheap_4 : decode cX5_cheap 4 = .ok (.aload_n 0, 1) := by decide +kernel
theorem dX5_cheap_5 : decode cX5_cheap 5 = .ok (.getfield 36, 3) := by decide +kernel
theorem dX5_cheap_8 : decode cX5_cheap 8 = .ok (.aload_n 0, 1) := by decide +kernel
theorem dX5_cheap_9 : decode cX5_cheap 9 = .ok (.getfield 40, 3) := by decide +kernel
theorem dX5_cheap_12 : decode cX5_cheap 12 = .ok (.aload_n 0, 1) := by decide +kernel
theorem dX5_cheap_13 : decode cX5_cheap 13 = .ok (.getfield 10, 3) := by decide +kernel
theorem dX5_cheap_16 : decode cX5_cheap 16 = .ok (.getfield 89, 3) := by decide +kernel
theorem dX5_cheap_19 : decode cX5_cheap 19 = .ok (.invokevirtual 242, 3) := by decide +kernel
theorem dX5_cheap_22 : decode cX5_cheap 22 = .ok (.iconst 0, 1) := by decide +kernel
theorem dX5_cheap_23 : decode cX5_cheap 23 = .ok (.aload_n 0, 1) := by decide +kernel
theorem dX5_cheap_24 : decode cX5_cheap 24 = .ok (.getfield 10, 3) := by decide +kernel
theorem dX5_cheap_27 : decode cX5_cheap 27 = .ok (.getfield 89, 3) := by decide +kernel
theorem dX5_cheap_30 : decode cX5_cheap 30 = .ok (.iconst 0, 1) := by decide +kernel
theorem dX5_cheap_31 : decode cX5_cheap 31 = .ok (.invokevirtual 236, 3) := by decide +kernel
theorem dX5_cheap_34 : decode cX5_cheap 34 = .ok (.invokestatic 266, 3) := by decide +kernel
theorem dX5_cheap_37 : decode cX5_cheap 37 = .ok (.ireturn, 1) := by decide +kernel
theorem dX5_weigh_0 : decode cX5_weigh 0 = .ok (.aload_n 0, 1) := by decide +kernel
theorem dX5_weigh_1 : decode cX5_weigh 1 = .ok (.getfield 10, 3) := by decide +kernel
theorem dX5_weigh_4 : decode cX5_weigh 4 = .ok (.getfield 89, 3) := by decide +kernel
theorem dX5_weigh_7 : decode cX5_weigh 7 = .ok (.astore_n 1, 1) := by decide +kernel
theorem dX5_weigh_8 : decode cX5_weigh 8 = .ok (.iconst 0, 1) := by decide +kernel
theorem dX5_weigh_9 : decode cX5_weigh 9 = .ok (.istore_n 2, 1) := by decide +kernel
theorem dX5_weigh_10 : decode cX5_weigh 10 = .ok (.iload_n 2, 1) := by decide +kernel
theorem dX5_weigh_11 : decode cX5_weigh 11 = .ok (.aload_n 1, 1) := by decide +kernel
theorem dX5_weigh_12 : decode cX5_weigh 12 = .ok (.getfield 92, 3) := by decide +kernel
theorem dX5_weigh_15 : decode cX5_weigh 15 = .ok (.if_icmp .ge 57, 3) := by decide +kernel
theorem dX5_weigh_18 : decode cX5_weigh 18 = .ok (.aload_n 0, 1) := by decide +kernel
theorem dX5_weigh_19 : decode cX5_weigh 19 = .ok (.getfield 40, 3) := by decide +kernel
theorem dX5_weigh_22 : decode cX5_weigh 22 = .ok (.iload_n 2, 1) := by decide +kernel
theorem dX5_weigh_23 : decode cX5_weigh 23 = .ok (.aload_n 1, 1) := by decide +kernel
theorem dX5_weigh_24 : decode cX5_weigh 24 = .ok (.iload_n 2, 1) := by decide +kernel
theorem dX5_weigh_25 : decode cX5_weigh 25 = .ok (.invokevirtual 227, 3) := by decide +kernel
theorem dX5_weigh_28 : decode cX5_weigh 28 = .ok (.invokestatic 138, 3) := by decide +kernel
theorem dX5_weigh_31 : decode cX5_weigh 31 = .ok (.iconst 0, 1) := by decide +kernel
theorem dX5_weigh_32 : decode cX5_weigh 32 = .ok (.istore_n 3, 1) := by decide +kernel
theorem dX5_weigh_33 : decode cX5_weigh 33 = .ok (.iload_n 3, 1) := by decide +kernel
theorem dX5_weigh_34 : decode cX5_weigh 34 = .ok (.aload_n 1, 1) := by decide +kernel
theorem dX5_weigh_35 : decode cX5_weigh 35 = .ok (.getfield 120, 3) := by decide +kernel
theorem dX5_weigh_38 : decode cX5_weigh 38 = .ok (.if_icmp .ge 28, 3) := by decide +kernel
theorem dX5_weigh_41 : decode cX5_weigh 41 = .ok (.aload_n 0, 1) := by decide +kernel
theorem dX5_weigh_42 : decode cX5_weigh 42 = .ok (.getfield 36, 3) := by decide +kernel
theorem dX5_weigh_45 : decode cX5_weigh 45 = .ok (.iload_n 3, 1) := by decide +kernel
theorem dX5_weigh_46 : decode cX5_weigh 46 = .ok (.bipush 7, 2) := by decide +kernel
theorem dX5_weigh_48 : decode cX5_weigh 48 = .ok (.imul, 1) := by decide +kernel
theorem dX5_weigh_49 : decode cX5_weigh 49 = .ok (.iload_n 2, 1) := by decide +kernel
theorem dX5_weigh_50 : decode cX5_weigh 50 = .ok (.iadd, 1) := by decide +kernel
theorem dX5_weigh_51 : decode cX5_weigh 51 = .ok (.aload_n 1, 1) := by decide +kernel
theorem dX5_weigh_52 : decode cX5_weigh 52 = .ok (.iload_n 2, 1) := by decide +kernel
theorem dX5_weigh_53 : decode cX5_weigh 53 = .ok (.iload_n 3, 1) := by decide +kernel
theorem dX5_weigh_54 : decode cX5_weigh 54 = .ok (.invokevirtual 239, 3) := by decide +kernel
theorem dX5_weigh_57 : decode cX5_weigh 57 = .ok (.invokestatic 138, 3) := by decide +kernel
theorem dX5_weigh_60 : decode cX5_weigh 60 = .ok (.iinc 3 1, 3) := by decide +kernel
theorem dX5_weigh_63 : decode cX5_weigh 63 = .ok (.goto (-30), 3) := by decide +kernel
theorem dX5_weigh_66 : decode cX5_weigh 66 = .ok (.iinc 2 1, 3) := by decide +kernel
theorem dX5_weigh_69 : decode cX5_weigh 69 = .ok (.goto (-59), 3) := by decide +kernel
theorem dX5_weigh_72 : decode cX5_weigh 72 = .ok (.return_, 1) := by decide +kernel
theorem dX5_mostJoy_0 : decode cX5_mostJoy 0 = .ok (.iload_n 2, 1) := by decide +kernel
theorem dX5_mostJoy_1 : decode cX5_mostJoy 1 = .ok (.iload_n 1, 1) := by decide +kernel
theorem dX5_mostJoy_2 : decode cX5_mostJoy 2 = .ok (.if_icmp .ge 8, 3) := by decide +kernel
theorem dX5_mostJoy_5 : decode cX5_mostJoy 5 = .ok (.iload_n 2, 1) := by decide +kernel
theorem dX5_mostJoy_6 : decode cX5_mostJoy 6 = .ok (.iconst 4, 1) := by decide +kernel
theorem dX5_mostJoy_7 : decode cX5_mostJoy 7 = .ok (.if_icmp .lt 5, 3) := by decide +kernel
theorem dX5_mostJoy_10 : decode cX5_mostJoy 10 = .ok (.iconst 0, 1) := by decide +kernel
theorem dX5_mostJoy_11 : decode cX5_mostJoy 11 = .ok (.ireturn, 1) := by decide +kernel
theorem dX5_mostJoy_12 : decode cX5_mostJoy 12 = .ok (.aload_n 0, 1) := by decide +kernel
theorem dX5_mostJoy_13 : decode cX5_mostJoy 13 = .ok (.iload_n 1, 1) := by decide +kernel
theorem dX5_mostJoy_14 : decode cX5_mostJoy 14 = .ok (.iload_n 2, 1) := by decide +kernel
theorem dX5_mostJoy_15 : decode cX5_mostJoy 15 = .ok (.iconst 1, 1) := by decide +kernel
theorem dX5_mostJoy_16 : decode cX5_mostJoy 16 = .ok (.iadd, 1) := by decide +kernel
theorem dX5_mostJoy_17 : decode cX5_mostJoy 17 = .ok (.iload_n 3, 1) := by decide +kernel
theorem dX5_mostJoy_18 : decode cX5_mostJoy 18 = .ok (.invokestatic 248, 3) := by decide +kernel
theorem dX5_mostJoy_21 : decode cX5_mostJoy 21 = .ok (.istore 4, 2) := by decide +kernel
theorem dX5_mostJoy_23 : decode cX5_mostJoy 23 = .ok (.iconst 0, 1) := by decide +kernel
theorem dX5_mostJoy_24 : decode cX5_mostJoy 24 = .ok (.istore 5, 2) := by decide +kernel
theorem dX5_mostJoy_26 : decode cX5_mostJoy 26 = .ok (.iload 5, 2) := by decide +kernel
theorem dX5_mostJoy_28 : decode cX5_mostJoy 28 = .ok (.bipush 7, 2) := by decide +kernel
theorem dX5_mostJoy_30 : decode cX5_mostJoy 30 = .ok (.if_icmp .ge 55, 3) := by decide +kernel
theorem dX5_mostJoy_33 : decode cX5_mostJoy 33 = .ok (.iload_n 3, 1) := by decide +kernel
theorem dX5_mostJoy_34 : decode cX5_mostJoy 34 = .ok (.iload 5, 2) := by decide +kernel
theorem dX5_mostJoy_36 : decode cX5_mostJoy 36 = .ok (.invokestatic 270, 3) := by decide +kernel
theorem dX5_mostJoy_39 : decode cX5_mostJoy 39 = .ok (.ifCond .eq 40, 3) := by decide +kernel
theorem dX5_mostJoy_42 : decode cX5_mostJoy 42 = .ok (.aload_n 0, 1) := by decide +kernel
theorem dX5_mostJoy_43 : decode cX5_mostJoy 43 = .ok (.iload_n 1, 1) := by decide +kernel
theorem dX5_mostJoy_44 : decode cX5_mostJoy 44 = .ok (.iload_n 2, 1) := by decide +kernel
theorem dX5_mostJoy_45 : decode cX5_mostJoy 45 = .ok (.iconst 1, 1) := by decide +kernel
theorem dX5_mostJoy_46 : decode cX5_mostJoy 46 = .ok (.iadd, 1) := by decide +kernel
theorem dX5_mostJoy_47 : decode cX5_mostJoy 47 = .ok (.iload_n 3, 1) := by decide +kernel
theorem dX5_mostJoy_48 : decode cX5_mostJoy 48 = .ok (.iload 5, 2) := by decide +kernel
theorem dX5_mostJoy_50 : decode cX5_mostJoy 50 = .ok (.invokestatic 255, 3) := by decide +kernel
theorem dX5_mostJoy_53 : decode cX5_mostJoy 53 = .ok (.invokestatic 248, 3) := by decide +kernel
theorem dX5_mostJoy_56 : decode cX5_mostJoy 56 = .ok (.istore 6, 2) := by decide +kernel
theorem dX5_mostJoy_58 : decode cX5_mostJoy 58 = .ok (.iload 4, 2) := by decide +kernel
theorem dX5_mostJoy_60 : decode cX5_mostJoy 60 = .ok (.aload_n 0, 1) := by decide +kernel
theorem dX5_mostJoy_61 : decode cX5_mostJoy 61 = .ok (.iload_n 2, 1) := by decide +kernel
theorem dX5_mostJoy_62 : decode cX5_mostJoy 62 = .ok (.bipush 7, 2) := by decide +kernel
theorem dX5_mostJoy_64 : decode cX5_mostJoy 64 = .ok (.imul, 1) := by decide +kernel
theorem dX5_mostJoy_65 : decode cX5_mostJoy 65 = .ok (.iload 5, 2) := by decide +kernel
theorem dX5_mostJoy_67 : decode cX5_mostJoy 67 = .ok (.iadd, 1) := by decide +kernel
theorem dX5_mostJoy_68 : decode cX5_mostJoy 68 = .ok (.invokestatic 196, 3) := by decide +kernel
theorem dX5_mostJoy_71 : decode cX5_mostJoy 71 = .ok (.iload 6, 2) := by decide +kernel
theorem dX5_mostJoy_73 : decode cX5_mostJoy 73 = .ok (.iadd, 1) := by decide +kernel
theorem dX5_mostJoy_74 : decode cX5_mostJoy 74 = .ok (.invokestatic 83, 3) := by decide +kernel
theorem dX5_mostJoy_77 : decode cX5_mostJoy 77 = .ok (.istore 4, 2) := by decide +kernel
theorem dX5_mostJoy_79 : decode cX5_mostJoy 79 = .ok (.iinc 5 1, 3) := by decide +kernel
theorem dX5_mostJoy_82 : decode cX5_mostJoy 82 = .ok (.goto (-56), 3) := by decide +kernel
theorem dX5_mostJoy_85 : decode cX5_mostJoy 85 = .ok (.iload 4, 2) := by decide +kernel
theorem dX5_mostJoy_87 : decode cX5_mostJoy 87 = .ok (.ireturn, 1) := by decide +kernel
theorem dX5_firstFor_0 : decode cX5_firstFor 0 = .ok (.aload_n 0, 1) := by decide +kernel
theorem dX5_firstFor_1 : decode cX5_firstFor 1 = .ok (.getfield 10, 3) := by decide +kernel
theorem dX5_firstFor_4 : decode cX5_firstFor 4 = .ok (.getfield 89, 3) := by decide +kernel
theorem dX5_firstFor_7 : decode cX5_firstFor 7 = .ok (.getfield 120, 3) := by decide +kernel
theorem dX5_firstFor_10 : decode cX5_firstFor 10 = .ok (.istore_n 3, 1) := by decide +kernel
theorem dX5_firstFor_11 : decode cX5_firstFor 11 = .ok (.aload_n 0, 1) := by decide +kernel
theorem dX5_firstFor_12 : decode cX5_firstFor 12 = .ok (.getfield 36, 3) := by decide +kernel
theorem dX5_firstFor_15 : decode cX5_firstFor 15 = .ok (.iload_n 3, 1) := by decide +kernel
theorem dX5_firstFor_16 : decode cX5_firstFor 16 = .ok (.iload_n 1, 1) := by decide +kernel
theorem dX5_firstFor_17 : decode cX5_firstFor 17 = .ok (.iload_n 2, 1) := by decide +kernel
theorem dX5_firstFor_18 : decode cX5_firstFor 18 = .ok (.invokestatic 248, 3) := by decide +kernel
theorem dX5_firstFor_21 : decode cX5_firstFor 21 = .ok (.istore 4, 2) := by decide +kernel
theorem dX5_firstFor_23 : decode cX5_firstFor 23 = .ok (.aload_n 0, 1) := by decide +kernel
theorem dX5_firstFor_24 : decode cX5_firstFor 24 = .ok (.getfield 36, 3) := by decide +kernel
theorem dX5_firstFor_27 : decode cX5_firstFor 27 = .ok (.iload_n 3, 1) := by decide +kernel
theorem dX5_firstFor_28 : decode cX5_firstFor 28 = .ok (.iload_n 1, 1) := by decide +kernel
theorem dX5_firstFor_29 : decode cX5_firstFor 29 = .ok (.iconst 1, 1) := by decide +kernel
theorem dX5_firstFor_30 : decode cX5_firstFor 30 = .ok (.iadd, 1) := by decide +kernel
theorem dX5_firstFor_31 : decode cX5_firstFor 31 = .ok (.iload_n 2, 1) := by decide +kernel
theorem dX5_firstFor_32 : decode cX5_firstFor 32 = .ok (.invokestatic 248, 3) := by decide +kernel
theorem dX5_firstFor_35 : decode cX5_firstFor 35 = .ok (.iload 4, 2) := by decide +kernel
theorem dX5_firstFor_37 : decode cX5_firstFor 37 = .ok (.if_icmp .ne 5, 3) := by decide +kernel
theorem dX5_firstFor_40 : decode cX5_firstFor 40 = .ok (.iconst (-1), 1) := by decide +kernel
theorem dX5_firstFor_41 : decode cX5_firstFor 41 = .ok (.ireturn, 1) := by decide +kernel
theorem dX5_firstFor_42 : decode cX5_firstFor 42 = .ok (.iconst 0, 1) := by decide +kernel
theorem dX5_firstFor_43 : decode cX5_firstFor 43 = .ok (.istore 5, 2) := by decide +kernel
theorem dX5_firstFor_45 : decode cX5_firstFor 45 = .ok (.iload 5, 2) := by decide +kernel
theorem dX5_firstFor_47 : decode cX5_firstFor 47 = .ok (.bipush 7, 2) := by decide +kernel
theorem dX5_firstFor_49 : decode cX5_firstFor 49 = .ok (.if_icmp .ge 62, 3) := by decide +kernel
theorem dX5_firstFor_52 : decode cX5_firstFor 52 = .ok (.iload_n 2, 1) := by decide +kernel
theorem dX5_firstFor_53 : decode cX5_firstFor 53 = .ok (.iload 5, 2) := by decide +kernel
theorem dX5_firstFor_55 : decode cX5_firstFor 55 = .ok (.invokestatic 270, 3) := by decide +kernel
theorem dX5_firstFor_58 : decode cX5_firstFor 58 = .ok (.ifCond .eq 47, 3) := by decide +kernel
theorem dX5_firstFor_61 : decode cX5_firstFor 61 = .ok (.aload_n 0, 1) := by decide +kernel
theorem dX5_firstFor_62 : decode cX5_firstFor 62 = .ok (.getfield 36, 3) := by decide +kernel
theorem dX5_firstFor_65 : decode cX5_firstFor 65 = .ok (.iload_n 3, 1) := by decide +kernel
theorem dX5_firstFor_66 : decode cX5_firstFor 66 = .ok (.iload_n 1, 1) := by decide +kernel
theorem dX5_firstFor_67 : decode cX5_firstFor 67 = .ok (.iconst 1, 1) := by decide +kernel
theorem dX5_firstFor_68 : decode cX5_firstFor 68 = .ok (.iadd, 1) := by decide +kernel
theorem dX5_firstFor_69 : decode cX5_firstFor 69 = .ok (.iload_n 2, 1) := by decide +kernel
theorem dX5_firstFor_70 : decode cX5_firstFor 70 = .ok (.iload 5, 2) := by decide +kernel
theorem dX5_firstFor_72 : decode cX5_firstFor 72 = .ok (.invokestatic 255, 3) := by decide +kernel
theorem dX5_firstFor_75 : decode cX5_firstFor 75 = .ok (.invokestatic 248, 3) := by decide +kernel
theorem dX5_firstFor_78 : decode cX5_firstFor 78 = .ok (.istore 6, 2) := by decide +kernel
theorem dX5_firstFor_80 : decode cX5_firstFor 80 = .ok (.aload_n 0, 1) := by decide +kernel
theorem dX5_firstFor_81 : decode cX5_firstFor 81 = .ok (.getfield 36, 3) := by decide +kernel
theorem dX5_firstFor_84 : decode cX5_firstFor 84 = .ok (.iload_n 1, 1) := by decide +kernel
theorem dX5_firstFor_85 : decode cX5_firstFor 85 = .ok (.bipush 7, 2) := by decide +kernel
theorem dX5_firstFor_87 : decode cX5_firstFor 87 = .ok (.imul, 1) := by decide +kernel
theorem dX5_firstFor_88 : decode cX5_firstFor 88 = .ok (.iload 5, 2) := by decide +kernel
theorem dX5_firstFor_90 : decode cX5_firstFor 90 = .ok (.iadd, 1) := by decide +kernel
theorem dX5_firstFor_91 : decode cX5_firstFor 91 = .ok (.invokestatic 196, 3) := by decide +kernel
theorem dX5_firstFor_94 : decode cX5_firstFor 94 = .ok (.iload 6, 2) := by decide +kernel
theorem dX5_firstFor_96 : decode cX5_firstFor 96 = .ok (.iadd, 1) := by decide +kernel
theorem dX5_firstFor_97 : decode cX5_firstFor 97 = .ok (.iload 4, 2) := by decide +kernel
theorem dX5_firstFor_99 : decode cX5_firstFor 99 = .ok (.if_icmp .ne 6, 3) := by decide +kernel
theorem dX5_firstFor_102 : decode cX5_firstFor 102 = .ok (.iload 5, 2) := by decide +kernel
theorem dX5_firstFor_104 : decode cX5_firstFor 104 = .ok (.ireturn, 1) := by decide +kernel
theorem dX5_firstFor_105 : decode cX5_firstFor 105 = .ok (.iinc 5 1, 3) := by decide +kernel
theorem dX5_firstFor_108 : decode cX5_firstFor 108 = .ok (.goto (-63), 3) := by decide +kernel
theorem dX5_firstFor_111 : decode cX5_firstFor 111 = .ok (.iconst (-1), 1) := by decide +kernel
theorem dX5_firstFor_112 : decode cX5_firstFor 112 = .ok (.ireturn, 1) := by decide +kernel
theorem dX5_sumOver_0 : decode cX5_sumOver 0 = .ok (.iconst 0, 1) := by decide +kernel
theorem dX5_sumOver_1 : decode cX5_sumOver 1 = .ok (.istore_n 3, 1) := by decide +kernel
theorem dX5_sumOver_2 : decode cX5_sumOver 2 = .ok (.iconst 0, 1) := by decide +kernel
theorem dX5_sumOver_3 : decode cX5_sumOver 3 = .ok (.istore 4, 2) := by decide +kernel
theorem dX5_sumOver_5 : decode cX5_sumOver 5 = .ok (.iload 4, 2) := by decide +kernel
theorem dX5_sumOver_7 : decode cX5_sumOver 7 = .ok (.bipush 7, 2) := by decide +kernel
theorem dX5_sumOver_9 : decode cX5_sumOver 9 = .ok (.if_icmp .ge 29, 3) := by decide +kernel
theorem dX5_sumOver_12 : decode cX5_sumOver 12 = .ok (.iload_n 2, 1) := by decide +kernel
theorem dX5_sumOver_13 : decode cX5_sumOver 13 = .ok (.iload 4, 2) := by decide +kernel
theorem dX5_sumOver_15 : decode cX5_sumOver 15 = .ok (.invokestatic 270, 3) := by decide +kernel
theorem dX5_sumOver_18 : decode cX5_sumOver 18 = .ok (.ifCond .eq 14, 3) := by decide +kernel
theorem dX5_sumOver_21 : decode cX5_sumOver 21 = .ok (.iload_n 3, 1) := by decide +kernel
theorem dX5_sumOver_22 : decode cX5_sumOver 22 = .ok (.aload_n 0, 1) := by decide +kernel
theorem dX5_sumOver_23 : decode cX5_sumOver 23 = .ok (.iload_n 1, 1) := by decide +kernel
theorem dX5_sumOver_24 : decode cX5_sumOver 24 = .ok (.iload 4, 2) := by decide +kernel
theorem dX5_sumOver_26 : decode cX5_sumOver 26 = .ok (.iadd, 1) := by decide +kernel
theorem dX5_sumOver_27 : decode cX5_sumOver 27 = .ok (.invokestatic 196, 3) := by decide +kernel
theorem dX5_sumOver_30 : decode cX5_sumOver 30 = .ok (.iadd, 1) := by decide +kernel
theorem dX5_sumOver_31 : decode cX5_sumOver 31 = .ok (.istore_n 3, 1) := by decide +kernel
theorem dX5_sumOver_32 : decode cX5_sumOver 32 = .ok (.iinc 4 1, 3) := by decide +kernel
theorem dX5_sumOver_35 : decode cX5_sumOver 35 = .ok (.goto (-30), 3) := by decide +kernel
theorem dX5_sumOver_38 : decode cX5_sumOver 38 = .ok (.iload_n 3, 1) := by decide +kernel
theorem dX5_sumOver_39 : decode cX5_sumOver 39 = .ok (.ireturn, 1) := by decide +kernel
theorem dX5_bestBuy_0 : decode cX5_bestBuy 0 = .ok (.iconst 0, 1) := by decide +kernel
theorem dX5_bestBuy_1 : decode cX5_bestBuy 1 = .ok (.istore 4, 2) := by decide +kernel
theorem dX5_bestBuy_3 : decode cX5_bestBuy 3 = .ok (.iconst 0, 1) := by decide +kernel
theorem dX5_bestBuy_4 : decode cX5_bestBuy 4 = .ok (.istore 5, 2) := by decide +kernel
theorem dX5_bestBuy_6 : decode cX5_bestBuy 6 = .ok (.iconst 1, 1) := by decide +kernel
theorem dX5_bestBuy_7 : decode cX5_bestBuy 7 = .ok (.istore 6, 2) := by decide +kernel
theorem dX5_bestBuy_9 : decode cX5_bestBuy 9 = .ok (.iload 6, 2) := by decide +kernel
theorem dX5_bestBuy_11 : decode cX5_bestBuy 11 = .ok (.sipush 128, 3) := by decide +kernel
theorem dX5_bestBuy_14 : decode cX5_bestBuy 14 = .ok (.if_icmp .ge 62, 3) := by decide +kernel
theorem dX5_bestBuy_17 : decode cX5_bestBuy 17 = .ok (.iload 6, 2) := by decide +kernel
theorem dX5_bestBuy_19 : decode cX5_bestBuy 19 = .ok (.iload_n 3, 1) := by decide +kernel
theorem dX5_bestBuy_20 : decode cX5_bestBuy 20 = .ok (.iconst (-1), 1) := by decide +kernel
theorem dX5_bestBuy_21 : decode cX5_bestBuy 21 = .ok (.ixor, 1) := by decide +kernel
theorem dX5_bestBuy_22 : decode cX5_bestBuy 22 = .ok (.iand, 1) := by decide +kernel
theorem dX5_bestBuy_23 : decode cX5_bestBuy 23 = .ok (.ifCond .ne 47, 3) := by decide +kernel
theorem dX5_bestBuy_26 : decode cX5_bestBuy 26 = .ok (.aload_n 0, 1) := by decide +kernel
theorem dX5_bestBuy_27 : decode cX5_bestBuy 27 = .ok (.getfield 40, 3) := by decide +kernel
theorem dX5_bestBuy_30 : decode cX5_bestBuy 30 = .ok (.iconst 0, 1) := by decide +kernel
theorem dX5_bestBuy_31 : decode cX5_bestBuy 31 = .ok (.iload 6, 2) := by decide +kernel
theorem dX5_bestBuy_33 : decode cX5_bestBuy 33 = .ok (.invokestatic 262, 3) := by decide +kernel
theorem dX5_bestBuy_36 : decode cX5_bestBuy 36 = .ok (.iload_n 1, 1) := by decide +kernel
theorem dX5_bestBuy_37 : decode cX5_bestBuy 37 = .ok (.if_icmp .gt 33, 3) := by decide +kernel
theorem dX5_bestBuy_40 : decode cX5_bestBuy 40 = .ok (.aload_n 0, 1) := by decide +kernel
theorem dX5_bestBuy_41 : decode cX5_bestBuy 41 = .ok (.getfield 36, 3) := by decide +kernel
theorem dX5_bestBuy_44 : decode cX5_bestBuy 44 = .ok (.iload_n 2, 1) := by decide +kernel
theorem dX5_bestBuy_45 : decode cX5_bestBuy 45 = .ok (.bipush 7, 2) := by decide +kernel
theorem dX5_bestBuy_47 : decode cX5_bestBuy 47 = .ok (.imul, 1) := by decide +kernel
theorem dX5_bestBuy_48 : decode cX5_bestBuy 48 = .ok (.iload 6, 2) := by decide +kernel
theorem dX5_bestBuy_50 : decode cX5_bestBuy 50 = .ok (.invokestatic 262, 3) := by decide +kernel
theorem dX5_bestBuy_53 : decode cX5_bestBuy 53 = .ok (.istore 7, 2) := by decide +kernel
theorem dX5_bestBuy_55 : decode cX5_bestBuy 55 = .ok (.iload 7, 2) := by decide +kernel
theorem dX5_bestBuy_57 : decode cX5_bestBuy 57 = .ok (.iload 5, 2) := by decide +kernel
theorem dX5_bestBuy_59 : decode cX5_bestBuy 59 = .ok (.if_icmp .le 11, 3) := by decide +kernel
theorem dX5_bestBuy_62 : decode cX5_bestBuy 62 = .ok (.iload 7, 2) := by decide +kernel
theorem dX5_bestBuy_64 : decode cX5_bestBuy 64 = .ok (.istore 5, 2) := by decide +kernel
theorem dX5_bestBuy_66 : decode cX5_bestBuy 66 = .ok (.iload 6, 2) := by decide +kernel
theorem dX5_bestBuy_68 : decode cX5_bestBuy 68 = .ok (.istore 4, 2) := by decide +kernel
theorem dX5_bestBuy_70 : decode cX5_bestBuy 70 = .ok (.iinc 6 1, 3) := by decide +kernel
theorem dX5_bestBuy_73 : decode cX5_bestBuy 73 = .ok (.goto (-64), 3) := by decide +kernel
theorem dX5_bestBuy_76 : decode cX5_bestBuy 76 = .ok (.iload 4, 2) := by decide +kernel
theorem dX5_bestBuy_78 : decode cX5_bestBuy 78 = .ok (.ireturn, 1) := by decide +kernel
theorem dX5_leastPrice_0 : decode cX5_leastPrice 0 = .ok (.iload_n 3, 1) := by decide +kernel
theorem dX5_leastPrice_1 : decode cX5_leastPrice 1 = .ok (.iconst 4, 1) := by decide +kernel
theorem dX5_leastPrice_2 : decode cX5_leastPrice 2 = .ok (.if_icmp .lt 5, 3) := by decide +kernel
theorem dX5_leastPrice_5 : decode cX5_leastPrice 5 = .ok (.iconst 0, 1) := by decide +kernel
theorem dX5_leastPrice_6 : decode cX5_leastPrice 6 = .ok (.ireturn, 1) := by decide +kernel
theorem dX5_leastPrice_7 : decode cX5_leastPrice 7 = .ok (.iload_n 2, 1) := by decide +kernel
theorem dX5_leastPrice_8 : decode cX5_leastPrice 8 = .ok (.iload_n 3, 1) := by decide +kernel
theorem dX5_leastPrice_9 : decode cX5_leastPrice 9 = .ok (.invokestatic 270, 3) := by decide +kernel
theorem dX5_leastPrice_12 : decode cX5_leastPrice 12 = .ok (.ifCond .ne 15, 3) := by decide +kernel
theorem dX5_leastPrice_15 : decode cX5_leastPrice 15 = .ok (.aload_n 0, 1) := by decide +kernel
theorem dX5_leastPrice_16 : decode cX5_leastPrice 16 = .ok (.aload_n 1, 1) := by decide +kernel
theorem dX5_leastPrice_17 : decode cX5_leastPrice 17 = .ok (.iload_n 2, 1) := by decide +kernel
theorem dX5_leastPrice_18 : decode cX5_leastPrice 18 = .ok (.iload_n 3, 1) := by decide +kernel
theorem dX5_leastPrice_19 : decode cX5_leastPrice 19 = .ok (.iconst 1, 1) := by decide +kernel
theorem dX5_leastPrice_20 : decode cX5_leastPrice 20 = .ok (.iadd, 1) := by decide +kernel
theorem dX5_leastPrice_21 : decode cX5_leastPrice 21 = .ok (.iload 4, 2) := by decide +kernel
theorem dX5_leastPrice_23 : decode cX5_leastPrice 23 = .ok (.invokestatic 266, 3) := by decide +kernel
theorem dX5_leastPrice_26 : decode cX5_leastPrice 26 = .ok (.ireturn, 1) := by decide +kernel
theorem dX5_leastPrice_27 : decode cX5_leastPrice 27 = .ok (.iconst (-1), 1) := by decide +kernel
theorem dX5_leastPrice_28 : decode cX5_leastPrice 28 = .ok (.istore 5, 2) := by decide +kernel
theorem dX5_leastPrice_30 : decode cX5_leastPrice 30 = .ok (.iconst 0, 1) := by decide +kernel
theorem dX5_leastPrice_31 : decode cX5_leastPrice 31 = .ok (.istore 6, 2) := by decide +kernel
theorem dX5_leastPrice_33 : decode cX5_leastPrice 33 = .ok (.iload 6, 2) := by decide +kernel
theorem dX5_leastPrice_35 : decode cX5_leastPrice 35 = .ok (.bipush 7, 2) := by decide +kernel
theorem dX5_leastPrice_37 : decode cX5_leastPrice 37 = .ok (.if_icmp .ge 86, 3) := by decide +kernel
theorem dX5_leastPrice_40 : decode cX5_leastPrice 40 = .ok (.iload 4, 2) := by decide +kernel
theorem dX5_leastPrice_42 : decode cX5_leastPrice 42 = .ok (.iload 6, 2) := by decide +kernel
theorem dX5_leastPrice_44 : decode cX5_leastPrice 44 = .ok (.invokestatic 270, 3) := by decide +kernel
theorem dX5_leastPrice_47 : decode cX5_leastPrice 47 = .ok (.ifCond .eq 70, 3) := by decide +kernel
theorem dX5_leastPrice_50 : decode cX5_leastPrice 50 = .ok (.aload_n 0, 1) := by decide +kernel
theorem dX5_leastPrice_51 : decode cX5_leastPrice 51 = .ok (.iload_n 3, 1) := by decide +kernel
theorem dX5_leastPrice_52 : decode cX5_leastPrice 52 = .ok (.bipush 7, 2) := by decide +kernel
theorem dX5_leastPrice_54 : decode cX5_leastPrice 54 = .ok (.imul, 1) := by decide +kernel
theorem dX5_leastPrice_55 : decode cX5_leastPrice 55 = .ok (.iload 6, 2) := by decide +kernel
theorem dX5_leastPrice_57 : decode cX5_leastPrice 57 = .ok (.iadd, 1) := by decide +kernel
theorem dX5_leastPrice_58 : decode cX5_leastPrice 58 = .ok (.invokestatic 196, 3) := by decide +kernel
theorem dX5_leastPrice_61 : decode cX5_leastPrice 61 = .ok (.iconst 1, 1) := by decide +kernel
theorem dX5_leastPrice_62 : decode cX5_leastPrice 62 = .ok (.if_icmp .lt 55, 3) := by decide +kernel
theorem dX5_leastPrice_65 : decode cX5_leastPrice 65 = .ok (.aload_n 0, 1) := by decide +kernel
theorem dX5_leastPrice_66 : decode cX5_leastPrice 66 = .ok (.aload_n 1, 1) := by decide +kernel
theorem dX5_leastPrice_67 : decode cX5_leastPrice 67 = .ok (.iload_n 2, 1) := by decide +kernel
theorem dX5_leastPrice_68 : decode cX5_leastPrice 68 = .ok (.iload_n 3, 1) := by decide +kernel
theorem dX5_leastPrice_69 : decode cX5_leastPrice 69 = .ok (.iconst 1, 1) := by decide +kernel
theorem dX5_leastPrice_70 : decode cX5_leastPrice 70 = .ok (.iadd, 1) := by decide +kernel
theorem dX5_leastPrice_71 : decode cX5_leastPrice 71 = .ok (.iload 4, 2) := by decide +kernel
theorem dX5_leastPrice_73 : decode cX5_leastPrice 73 = .ok (.iload 6, 2) := by decide +kernel
theorem dX5_leastPrice_75 : decode cX5_leastPrice 75 = .ok (.invokestatic 255, 3) := by decide +kernel
theorem dX5_leastPrice_78 : decode cX5_leastPrice 78 = .ok (.invokestatic 266, 3) := by decide +kernel
theorem dX5_leastPrice_81 : decode cX5_leastPrice 81 = .ok (.istore 7, 2) := by decide +kernel
theorem dX5_leastPrice_83 : decode cX5_leastPrice 83 = .ok (.aload_n 1, 1) := by decide +kernel
theorem dX5_leastPrice_84 : decode cX5_leastPrice 84 = .ok (.iload 6, 2) := by decide +kernel
theorem dX5_leastPrice_86 : decode cX5_leastPrice 86 = .ok (.invokestatic 196, 3) := by decide +kernel
theorem dX5_leastPrice_89 : decode cX5_leastPrice 89 = .ok (.iload 7, 2) := by decide +kernel
theorem dX5_leastPrice_91 : decode cX5_leastPrice 91 = .ok (.iadd, 1) := by decide +kernel
theorem dX5_leastPrice_92 : decode cX5_leastPrice 92 = .ok (.istore 8, 2) := by decide +kernel
theorem dX5_leastPrice_94 : decode cX5_leastPrice 94 = .ok (.iload 7, 2) := by decide +kernel
theorem dX5_leastPrice_96 : decode cX5_leastPrice 96 = .ok (.iconst (-1), 1) := by decide +kernel
theorem dX5_leastPrice_97 : decode cX5_leastPrice 97 = .ok (.if_icmp .eq 20, 3) := by decide +kernel
theorem dX5_leastPrice_100 : decode cX5_leastPrice 100 = .ok (.iload 5, 2) := by decide +kernel
theorem dX5_leastPrice_102 : decode cX5_leastPrice 102 = .ok (.iconst (-1), 1) := by decide +kernel
theorem dX5_leastPrice_103 : decode cX5_leastPrice 103 = .ok (.if_icmp .eq 10, 3) := by decide +kernel
theorem dX5_leastPrice_106 : decode cX5_leastPrice 106 = .ok (.iload 8, 2) := by decide +kernel
theorem dX5_leastPrice_108 : decode cX5_leastPrice 108 = .ok (.iload 5, 2) := by decide +kernel
theorem dX5_leastPrice_110 : decode cX5_leastPrice 110 = .ok (.if_icmp .ge 7, 3) := by decide +kernel
theorem dX5_leastPrice_113 : decode cX5_leastPrice 113 = .ok (.iload 8, 2) := by decide +kernel
theorem dX5_leastPrice_115 : decode cX5_leastPrice 115 = .ok (.istore 5, 2) := by decide +kernel
theorem dX5_leastPrice_117 : decode cX5_leastPrice 117 = .ok (.iinc 6 1, 3) := by decide +kernel
theorem dX5_leastPrice_120 : decode cX5_leastPrice 120 = .ok (.goto (-87), 3) := by decide +kernel
theorem dX5_leastPrice_123 : decode cX5_leastPrice 123 = .ok (.iload 5, 2) := by decide +kernel
theorem dX5_leastPrice_125 : decode cX5_leastPrice 125 = .ok (.ireturn, 1) := by decide +kernel
theorem dX5_seen_0 : decode cX5_seen 0 = .ok (.iload_n 1, 1) := by decide +kernel
theorem dX5_seen_1 : decode cX5_seen 1 = .ok (.iconst 0, 1) := by decide +kernel
theorem dX5_seen_2 : decode cX5_seen 2 = .ok (.bipush 99, 2) := by decide +kernel
theorem dX5_seen_4 : decode cX5_seen 4 = .ok (.invokestatic 98, 3) := by decide +kernel
theorem dX5_seen_7 : decode cX5_seen 7 = .ok (.ifCond .eq 13, 3) := by decide +kernel
theorem dX5_seen_10 : decode cX5_seen 10 = .ok (.iload_n 2, 1) := by decide +kernel
theorem dX5_seen_11 : decode cX5_seen 11 = .ok (.iconst 0, 1) := by decide +kernel
theorem dX5_seen_12 : decode cX5_seen 12 = .ok (.bipush 30, 2) := by decide +kernel
theorem dX5_seen_14 : decode cX5_seen 14 = .ok (.invokestatic 98, 3) := by decide +kernel
theorem dX5_seen_17 : decode cX5_seen 17 = .ok (.ifCond .ne 8, 3) := by decide +kernel
theorem dX5_seen_20 : decode cX5_seen 20 = .ok (.aload_n 0, 1) := by decide +kernel
theorem dX5_seen_21 : decode cX5_seen 21 = .ok (.invokevirtual 102, 3) := by decide +kernel
theorem dX5_seen_24 : decode cX5_seen 24 = .ok (.ireturn, 1) := by decide +kernel
theorem dX5_seen_25 : decode cX5_seen 25 = .ok (.aload_n 0, 1) := by decide +kernel
theorem dX5_seen_26 : decode cX5_seen 26 = .ok (.getfield 10, 3) := by decide +kernel
theorem dX5_seen_29 : decode cX5_seen 29 = .ok (.getfield 273, 3) := by decide +kernel
theorem dX5_seen_32 : decode cX5_seen 32 = .ok (.invokevirtual 277, 3) := by decide +kernel
theorem dX5_seen_35 : decode cX5_seen 35 = .ok (.ifCond .eq 10, 3) := by decide +kernel
theorem dX5_seen_38 : decode cX5_seen 38 = .ok (.aload_n 0, 1) := by decide +kernel
theorem dX5_seen_39 : decode cX5_seen 39 = .ok (.invokevirtual 105, 3) := by decide +kernel
theorem dX5_seen_42 : decode cX5_seen 42 = .ok (.goto 17, 3) := by decide +kernel
theorem dX5_seen_45 : decode cX5_seen 45 = .ok (.aload_n 0, 1) := by decide +kernel
theorem dX5_seen_46 : decode cX5_seen 46 = .ok (.getfield 10, 3) := by decide +kernel
theorem dX5_seen_49 : decode cX5_seen 49 = .ok (.getfield 273, 3) := by decide +kernel
theorem dX5_seen_52 : decode cX5_seen 52 = .ok (.iconst 0, 1) := by decide +kernel
theorem dX5_seen_53 : decode cX5_seen 53 = .ok (.iconst 0, 1) := by decide +kernel
theorem dX5_seen_54 : decode cX5_seen 54 = .ok (.iload_n 1, 1) := by decide +kernel
theorem dX5_seen_55 : decode cX5_seen 55 = .ok (.iload_n 2, 1) := by decide +kernel
theorem dX5_seen_56 : decode cX5_seen 56 = .ok (.invokevirtual 282, 3) := by decide +kernel
theorem dX5_seen_59 : decode cX5_seen 59 = .ok (.ireturn, 1) := by decide +kernel
theorem dX5_which_0 : decode cX5_which 0 = .ok (.aload_n 0, 1) := by decide +kernel
theorem dX5_which_1 : decode cX5_which 1 = .ok (.iconst 0, 1) := by decide +kernel
theorem dX5_which_2 : decode cX5_which 2 = .ok (.iconst 0, 1) := by decide +kernel
theorem dX5_which_3 : decode cX5_which 3 = .ok (.aload_n 0, 1) := by decide +kernel
theorem dX5_which_4 : decode cX5_which 4 = .ok (.getfield 10, 3) := by decide +kernel
theorem dX5_which_7 : decode cX5_which 7 = .ok (.getfield 89, 3) := by decide +kernel
theorem dX5_which_10 : decode cX5_which 10 = .ok (.getfield 92, 3) := by decide +kernel
theorem dX5_which_13 : decode cX5_which 13 = .ok (.invokevirtual 286, 3) := by decide +kernel
theorem dX5_which_16 : decode cX5_which 16 = .ok (.ireturn, 1) := by decide +kernel
theorem dX5_tell_0 : decode cX5_tell 0 = .ok (.aload_n 0, 1) := by decide +kernel
theorem dX5_tell_1 : decode cX5_tell 1 = .ok (.iconst 0, 1) := by decide +kernel
theorem dX5_tell_2 : decode cX5_tell 2 = .ok (.iconst 0, 1) := by decide +kernel
theorem dX5_tell_3 : decode cX5_tell 3 = .ok (.aload_n 0, 1) := by decide +kernel
theorem dX5_tell_4 : decode cX5_tell 4 = .ok (.invokevirtual 289, 3) := by decide +kernel
theorem dX5_tell_7 : decode cX5_tell 7 = .ok (.bipush 30, 2) := by decide +kernel
theorem dX5_tell_9 : decode cX5_tell 9 = .ok (.invokevirtual 292, 3) := by decide +kernel
theorem dX5_tell_12 : decode cX5_tell 12 = .ok (.ireturn, 1) := by decide +kernel
theorem dX5_note_0 : decode cX5_note 0 = .ok (.aload_n 0, 1) := by decide +kernel
theorem dX5_note_1 : decode cX5_note 1 = .ok (.getfield 10, 3) := by decide +kernel
theorem dX5_note_4 : decode cX5_note 4 = .ok (.getfield 89, 3) := by decide +kernel
theorem dX5_note_7 : decode cX5_note 7 = .ok (.iload_n 1, 1) := by decide +kernel
theorem dX5_note_8 : decode cX5_note 8 = .ok (.invokevirtual 179, 3) := by decide +kernel
theorem dX5_note_11 : decode cX5_note 11 = .ok (.ifCond .eq 13, 3) := by decide +kernel
theorem dX5_note_14 : decode cX5_note 14 = .ok (.iload_n 2, 1) := by decide +kernel
theorem dX5_note_15 : decode cX5_note 15 = .ok (.iconst 1, 1) := by decide +kernel
theorem dX5_note_16 : decode cX5_note 16 = .ok (.bipush 9, 2) := by decide +kernel
theorem dX5_note_18 : decode cX5_note 18 = .ok (.invokestatic 98, 3) := by decide +kernel
theorem dX5_note_21 : decode cX5_note 21 = .ok (.ifCond .ne 8, 3) := by decide +kernel
theorem dX5_note_24 : decode cX5_note 24 = .ok (.aload_n 0, 1) := by decide +kernel
theorem dX5_note_25 : decode cX5_note 25 = .ok (.invokevirtual 102, 3) := by decide +kernel
theorem dX5_note_28 : decode cX5_note 28 = .ok (.ireturn, 1) := by decide +kernel
theorem dX5_note_29 : decode cX5_note 29 = .ok (.iload_n 3, 1) := by decide +kernel
theorem dX5_note_30 : decode cX5_note 30 = .ok (.iconst 0, 1) := by decide +kernel
theorem dX5_note_31 : decode cX5_note 31 = .ok (.bipush 99, 2) := by decide +kernel
theorem dX5_note_33 : decode cX5_note 33 = .ok (.invokestatic 98, 3) := by decide +kernel
theorem dX5_note_36 : decode cX5_note 36 = .ok (.ifCond .eq 14, 3) := by decide +kernel
theorem dX5_note_39 : decode cX5_note 39 = .ok (.iload 4, 2) := by decide +kernel
theorem dX5_note_41 : decode cX5_note 41 = .ok (.iconst 0, 1) := by decide +kernel
theorem dX5_note_42 : decode cX5_note 42 = .ok (.bipush 30, 2) := by decide +kernel
theorem dX5_note_44 : decode cX5_note 44 = .ok (.invokestatic 98, 3) := by decide +kernel
theorem dX5_note_47 : decode cX5_note 47 = .ok (.ifCond .ne 8, 3) := by decide +kernel
theorem dX5_note_50 : decode cX5_note 50 = .ok (.aload_n 0, 1) := by decide +kernel
theorem dX5_note_51 : decode cX5_note 51 = .ok (.invokevirtual 102, 3) := by decide +kernel
theorem dX5_note_54 : decode cX5_note 54 = .ok (.ireturn, 1) := by decide +kernel
theorem dX5_note_55 : decode cX5_note 55 = .ok (.aload_n 0, 1) := by decide +kernel
theorem dX5_note_56 : decode cX5_note 56 = .ok (.getfield 10, 3) := by decide +kernel
theorem dX5_note_59 : decode cX5_note 59 = .ok (.getfield 295, 3) := by decide +kernel
theorem dX5_note_62 : decode cX5_note 62 = .ok (.invokevirtual 277, 3) := by decide +kernel
theorem dX5_note_65 : decode cX5_note 65 = .ok (.ifCond .eq 10, 3) := by decide +kernel
theorem dX5_note_68 : decode cX5_note 68 = .ok (.aload_n 0, 1) := by decide +kernel
theorem dX5_note_69 : decode cX5_note 69 = .ok (.invokevirtual 105, 3) := by decide +kernel
theorem dX5_note_72 : decode cX5_note 72 = .ok (.goto 18, 3) := by decide +kernel
theorem dX5_note_75 : decode cX5_note 75 = .ok (.aload_n 0, 1) := by decide +kernel
theorem dX5_note_76 : decode cX5_note 76 = .ok (.getfield 10, 3) := by decide +kernel
theorem dX5_note_79 : decode cX5_note 79 = .ok (.getfield 295, 3) := by decide +kernel
theorem dX5_note_82 : decode cX5_note 82 = .ok (.iload_n 1, 1) := by decide +kernel
theorem dX5_note_83 : decode cX5_note 83 = .ok (.iload_n 2, 1) := by decide +kernel
theorem dX5_note_84 : decode cX5_note 84 = .ok (.iload_n 3, 1) := by decide +kernel
theorem dX5_note_85 : decode cX5_note 85 = .ok (.iload 4, 2) := by decide +kernel
theorem dX5_note_87 : decode cX5_note 87 = .ok (.invokevirtual 282, 3) := by decide +kernel
theorem dX5_note_90 : decode cX5_note 90 = .ok (.ireturn, 1) := by decide +kernel
theorem dX5_mark_0 : decode cX5_mark 0 = .ok (.aload_n 0, 1) := by decide +kernel
theorem dX5_mark_1 : decode cX5_mark 1 = .ok (.getfield 10, 3) := by decide +kernel
theorem dX5_mark_4 : decode cX5_mark 4 = .ok (.getfield 89, 3) := by decide +kernel
theorem dX5_mark_7 : decode cX5_mark 7 = .ok (.iload_n 1, 1) := by decide +kernel
theorem dX5_mark_8 : decode cX5_mark 8 = .ok (.invokevirtual 200, 3) := by decide +kernel
theorem dX5_mark_11 : decode cX5_mark 11 = .ok (.ifCond .eq 13, 3) := by decide +kernel
theorem dX5_mark_14 : decode cX5_mark 14 = .ok (.iload_n 2, 1) := by decide +kernel
theorem dX5_mark_15 : decode cX5_mark 15 = .ok (.iconst 1, 1) := by decide +kernel
theorem dX5_mark_16 : decode cX5_mark 16 = .ok (.bipush 9, 2) := by decide +kernel
theorem dX5_mark_18 : decode cX5_mark 18 = .ok (.invokestatic 98, 3) := by decide +kernel
theorem dX5_mark_21 : decode cX5_mark 21 = .ok (.ifCond .ne 8, 3) := by decide +kernel
theorem dX5_mark_24 : decode cX5_mark 24 = .ok (.aload_n 0, 1) := by decide +kernel
theorem dX5_mark_25 : decode cX5_mark 25 = .ok (.invokevirtual 102, 3) := by decide +kernel
theorem dX5_mark_28 : decode cX5_mark 28 = .ok (.ireturn, 1) := by decide +kernel
theorem dX5_mark_29 : decode cX5_mark 29 = .ok (.iload_n 3, 1) := by decide +kernel
theorem dX5_mark_30 : decode cX5_mark 30 = .ok (.iconst 0, 1) := by decide +kernel
theorem dX5_mark_31 : decode cX5_mark 31 = .ok (.bipush 30, 2) := by decide +kernel
theorem dX5_mark_33 : decode cX5_mark 33 = .ok (.invokestatic 98, 3) := by decide +kernel
theorem dX5_mark_36 : decode cX5_mark 36 = .ok (.ifCond .eq 14, 3) := by decide +kernel
theorem dX5_mark_39 : decode cX5_mark 39 = .ok (.iload 4, 2) := by decide +kernel
theorem dX5_mark_41 : decode cX5_mark 41 = .ok (.iconst 0, 1) := by decide +kernel
theorem dX5_mark_42 : decode cX5_mark 42 = .ok (.bipush 20, 2) := by decide +kernel
theorem dX5_mark_44 : decode cX5_mark 44 = .ok (.invokestatic 98, 3) := by decide +kernel
theorem dX5_mark_47 : decode cX5_mark 47 = .ok (.ifCond .ne 8, 3) := by decide +kernel
theorem dX5_mark_50 : decode cX5_mark 50 = .ok (.aload_n 0, 1) := by decide +kernel
theorem dX5_mark_51 : decode cX5_mark 51 = .ok (.invokevirtual 102, 3) := by decide +kernel
theorem dX5_mark_54 : decode cX5_mark 54 = .ok (.ireturn, 1) := by decide +kernel
theorem dX5_mark_55 : decode cX5_mark 55 = .ok (.aload_n 0, 1) := by decide +kernel
theorem dX5_mark_56 : decode cX5_mark 56 = .ok (.getfield 10, 3) := by decide +kernel
theorem dX5_mark_59 : decode cX5_mark 59 = .ok (.getfield 298, 3) := by decide +kernel
theorem dX5_mark_62 : decode cX5_mark 62 = .ok (.invokevirtual 277, 3) := by decide +kernel
theorem dX5_mark_65 : decode cX5_mark 65 = .ok (.ifCond .eq 10, 3) := by decide +kernel
theorem dX5_mark_68 : decode cX5_mark 68 = .ok (.aload_n 0, 1) := by decide +kernel
theorem dX5_mark_69 : decode cX5_mark 69 = .ok (.invokevirtual 105, 3) := by decide +kernel
theorem dX5_mark_72 : decode cX5_mark 72 = .ok (.goto 18, 3) := by decide +kernel
theorem dX5_mark_75 : decode cX5_mark 75 = .ok (.aload_n 0, 1) := by decide +kernel
theorem dX5_mark_76 : decode cX5_mark 76 = .ok (.getfield 10, 3) := by decide +kernel
theorem dX5_mark_79 : decode cX5_mark 79 = .ok (.getfield 298, 3) := by decide +kernel
theorem dX5_mark_82 : decode cX5_mark 82 = .ok (.iload_n 1, 1) := by decide +kernel
theorem dX5_mark_83 : decode cX5_mark 83 = .ok (.iload_n 2, 1) := by decide +kernel
theorem dX5_mark_84 : decode cX5_mark 84 = .ok (.iload_n 3, 1) := by decide +kernel
theorem dX5_mark_85 : decode cX5_mark 85 = .ok (.iload 4, 2) := by decide +kernel
theorem dX5_mark_87 : decode cX5_mark 87 = .ok (.invokevirtual 282, 3) := by decide +kernel
theorem dX5_mark_90 : decode cX5_mark 90 = .ok (.ireturn, 1) := by decide +kernel
theorem dX5_forget_0 : decode cX5_forget 0 = .ok (.iload_n 1, 1) := by decide +kernel
theorem dX5_forget_1 : decode cX5_forget 1 = .ok (.iconst 0, 1) := by decide +kernel
theorem dX5_forget_2 : decode cX5_forget 2 = .ok (.iconst 2, 1) := by decide +kernel
theorem dX5_forget_3 : decode cX5_forget 3 = .ok (.invokestatic 98, 3) := by decide +kernel
theorem dX5_forget_6 : decode cX5_forget 6 = .ok (.ifCond .ne 8, 3) := by decide +kernel
theorem dX5_forget_9 : decode cX5_forget 9 = .ok (.aload_n 0, 1) := by decide +kernel
theorem dX5_forget_10 : decode cX5_forget 10 = .ok (.invokevirtual 102, 3) := by decide +kernel
theorem dX5_forget_13 : decode cX5_forget 13 = .ok (.ireturn, 1) := by decide +kernel
theorem dX5_forget_14 : decode cX5_forget 14 = .ok (.aload_n 0, 1) := by decide +kernel
theorem dX5_forget_15 : decode cX5_forget 15 = .ok (.getfield 10, 3) := by decide +kernel
theorem dX5_forget_18 : decode cX5_forget 18 = .ok (.iload_n 1, 1) := by decide +kernel
theorem dX5_forget_19 : decode cX5_forget 19 = .ok (.invokevirtual 301, 3) := by decide +kernel
theorem dX5_forget_22 : decode cX5_forget 22 = .ok (.astore_n 2, 1) := by decide +kernel
theorem dX5_forget_23 : decode cX5_forget 23 = .ok (.aload_n 2, 1) := by decide +kernel
theorem dX5_forget_24 : decode cX5_forget 24 = .ok (.getfield 305, 3) := by decide +kernel
theorem dX5_forget_27 : decode cX5_forget 27 = .ok (.istore_n 3, 1) := by decide +kernel
theorem dX5_forget_28 : decode cX5_forget 28 = .ok (.aload_n 2, 1) := by decide +kernel
theorem dX5_forget_29 : decode cX5_forget 29 = .ok (.iconst 0, 1) := by decide +kernel
theorem dX5_forget_30 : decode cX5_forget 30 = .ok (.putfield 305, 3) := by decide +kernel
theorem dX5_forget_33 : decode cX5_forget 33 = .ok (.iload_n 3, 1) := by decide +kernel
theorem dX5_forget_34 : decode cX5_forget 34 = .ok (.ireturn, 1) := by decide +kernel
theorem dX5_is_0 : decode cX5_is 0 = .ok (.aload_n 0, 1) := by decide +kernel
theorem dX5_is_1 : decode cX5_is 1 = .ok (.getfield 10, 3) := by decide +kernel
theorem dX5_is_4 : decode cX5_is 4 = .ok (.getfield 89, 3) := by decide +kernel
theorem dX5_is_7 : decode cX5_is 7 = .ok (.iload_n 1, 1) := by decide +kernel
theorem dX5_is_8 : decode cX5_is 8 = .ok (.invokevirtual 179, 3) := by decide +kernel
theorem dX5_is_11 : decode cX5_is 11 = .ok (.ifCond .eq 14, 3) := by decide +kernel
theorem dX5_is_14 : decode cX5_is 14 = .ok (.aload_n 0, 1) := by decide +kernel
theorem dX5_is_15 : decode cX5_is 15 = .ok (.iconst 1, 1) := by decide +kernel
theorem dX5_is_16 : decode cX5_is 16 = .ok (.iload_n 1, 1) := by decide +kernel
theorem dX5_is_17 : decode cX5_is 17 = .ok (.bipush 6, 2) := by decide +kernel
theorem dX5_is_19 : decode cX5_is 19 = .ok (.invokevirtual 286, 3) := by decide +kernel
theorem dX5_is_22 : decode cX5_is 22 = .ok (.goto 7, 3) := by decide +kernel
theorem dX5_is_25 : decode cX5_is 25 = .ok (.aload_n 0, 1) := by decide +kernel
theorem dX5_is_26 : decode cX5_is 26 = .ok (.invokevirtual 102, 3) := by decide +kernel
theorem dX5_is_29 : decode cX5_is 29 = .ok (.ireturn, 1) := by decide +kernel
theorem dX5_look_0 : decode cX5_look 0 = .ok (.aload_n 0, 1) := by decide +kernel
theorem dX5_look_1 : decode cX5_look 1 = .ok (.getfield 10, 3) := by decide +kernel
theorem dX5_look_4 : decode cX5_look 4 = .ok (.getfield 89, 3) := by decide +kernel
theorem dX5_look_7 : decode cX5_look 7 = .ok (.iload_n 1, 1) := by decide +kernel
theorem dX5_look_8 : decode cX5_look 8 = .ok (.invokevirtual 179, 3) := by decide +kernel
theorem dX5_look_11 : decode cX5_look 11 = .ok (.ifCond .ne 8, 3) := by decide +kernel
theorem dX5_look_14 : decode cX5_look 14 = .ok (.aload_n 0, 1) := by decide +kernel
theorem dX5_look_15 : decode cX5_look 15 = .ok (.invokevirtual 102, 3) := by decide +kernel
theorem dX5_look_18 : decode cX5_look 18 = .ok (.ireturn, 1) := by decide +kernel
theorem dX5_look_19 : decode cX5_look 19 = .ok (.aload_n 0, 1) := by decide +kernel
theorem dX5_look_20 : decode cX5_look 20 = .ok (.iconst 1, 1) := by decide +kernel
theorem dX5_look_21 : decode cX5_look 21 = .ok (.aload_n 0, 1) := by decide +kernel
theorem dX5_look_22 : decode cX5_look 22 = .ok (.getfield 10, 3) := by decide +kernel
theorem dX5_look_25 : decode cX5_look 25 = .ok (.getfield 89, 3) := by decide +kernel
theorem dX5_look_28 : decode cX5_look 28 = .ok (.getfield 215, 3) := by decide +kernel
theorem dX5_look_31 : decode cX5_look 31 = .ok (.iload_n 1, 1) := by decide +kernel
theorem dX5_look_32 : decode cX5_look 32 = .ok (.invokestatic 196, 3) := by decide +kernel
theorem dX5_look_35 : decode cX5_look 35 = .ok (.aload_n 0, 1) := by decide +kernel
theorem dX5_look_36 : decode cX5_look 36 = .ok (.iconst 1, 1) := by decide +kernel
theorem dX5_look_37 : decode cX5_look 37 = .ok (.iload_n 1, 1) := by decide +kernel
theorem dX5_look_38 : decode cX5_look 38 = .ok (.bipush 6, 2) := by decide +kernel
theorem dX5_look_40 : decode cX5_look 40 = .ok (.invokevirtual 286, 3) := by decide +kernel
theorem dX5_look_43 : decode cX5_look 43 = .ok (.bipush 60, 2) := by decide +kernel
theorem dX5_look_45 : decode cX5_look 45 = .ok (.invokevirtual 292, 3) := by decide +kernel
theorem dX5_look_48 : decode cX5_look 48 = .ok (.ireturn, 1) := by decide +kernel
theorem dX5_kinds_0 : decode cX5_kinds 0 = .ok (.aload_n 0, 1) := by decide +kernel
theorem dX5_kinds_1 : decode cX5_kinds 1 = .ok (.getfield 10, 3) := by decide +kernel
theorem dX5_kinds_4 : decode cX5_kinds 4 = .ok (.getfield 89, 3) := by decide +kernel
theorem dX5_kinds_7 : decode cX5_kinds 7 = .ok (.iload_n 1, 1) := by decide +kernel
theorem dX5_kinds_8 : decode cX5_kinds 8 = .ok (.invokevirtual 200, 3) := by decide +kernel
theorem dX5_kinds_11 : decode cX5_kinds 11 = .ok (.ifCond .eq 14, 3) := by decide +kernel
theorem dX5_kinds_14 : decode cX5_kinds 14 = .ok (.aload_n 0, 1) := by decide +kernel
theorem dX5_kinds_15 : decode cX5_kinds 15 = .ok (.iconst 2, 1) := by decide +kernel
theorem dX5_kinds_16 : decode cX5_kinds 16 = .ok (.iload_n 1, 1) := by decide +kernel
theorem dX5_kinds_17 : decode cX5_kinds 17 = .ok (.bipush 6, 2) := by decide +kernel
theorem dX5_kinds_19 : decode cX5_kinds 19 = .ok (.invokevirtual 286, 3) := by decide +kernel
theorem dX5_kinds_22 : decode cX5_kinds 22 = .ok (.goto 7, 3) := by decide +kernel
theorem dX5_kinds_25 : decode cX5_kinds 25 = .ok (.aload_n 0, 1) := by decide +kernel
theorem dX5_kinds_26 : decode cX5_kinds 26 = .ok (.invokevirtual 102, 3) := by decide +kernel
theorem dX5_kinds_29 : decode cX5_kinds 29 = .ok (.ireturn, 1) := by decide +kernel
theorem dX5_ask_0 : decode cX5_ask 0 = .ok (.aload_n 0, 1) := by decide +kernel
theorem dX5_ask_1 : decode cX5_ask 1 = .ok (.getfield 10, 3) := by decide +kernel
theorem dX5_ask_4 : decode cX5_ask 4 = .ok (.getfield 89, 3) := by decide +kernel
theorem dX5_ask_7 : decode cX5_ask 7 = .ok (.iload_n 1, 1) := by decide +kernel
theorem dX5_ask_8 : decode cX5_ask 8 = .ok (.invokevirtual 200, 3) := by decide +kernel
theorem dX5_ask_11 : decode cX5_ask 11 = .ok (.ifCond .ne 8, 3) := by decide +kernel
theorem dX5_ask_14 : decode cX5_ask 14 = .ok (.aload_n 0, 1) := by decide +kernel
theorem dX5_ask_15 : decode cX5_ask 15 = .ok (.invokevirtual 102, 3) := by decide +kernel
theorem dX5_ask_18 : decode cX5_ask 18 = .ok (.ireturn, 1) := by decide +kernel
theorem dX5_ask_19 : decode cX5_ask 19 = .ok (.aload_n 0, 1) := by decide +kernel
theorem dX5_ask_20 : decode cX5_ask 20 = .ok (.iconst 2, 1) := by decide +kernel
theorem dX5_ask_21 : decode cX5_ask 21 = .ok (.aload_n 0, 1) := by decide +kernel
theorem dX5_ask_22 : decode cX5_ask 22 = .ok (.getfield 10, 3) := by decide +kernel
theorem dX5_ask_25 : decode cX5_ask 25 = .ok (.getfield 89, 3) := by decide +kernel
theorem dX5_ask_28 : decode cX5_ask 28 = .ok (.getfield 233, 3) := by decide +kernel
theorem dX5_ask_31 : decode cX5_ask 31 = .ok (.iload_n 1, 1) := by decide +kernel
theorem dX5_ask_32 : decode cX5_ask 32 = .ok (.invokestatic 196, 3) := by decide +kernel
theorem dX5_ask_35 : decode cX5_ask 35 = .ok (.aload_n 0, 1) := by decide +kernel
theorem dX5_ask_36 : decode cX5_ask 36 = .ok (.iconst 2, 1) := by decide +kernel
theorem dX5_ask_37 : decode cX5_ask 37 = .ok (.iload_n 1, 1) := by decide +kernel
theorem dX5_ask_38 : decode cX5_ask 38 = .ok (.bipush 6, 2) := by decide +kernel
theorem dX5_ask_40 : decode cX5_ask 40 = .ok (.invokevirtual 286, 3) := by decide +kernel
theorem dX5_ask_43 : decode cX5_ask 43 = .ok (.bipush 30, 2) := by decide +kernel
theorem dX5_ask_45 : decode cX5_ask 45 = .ok (.invokevirtual 292, 3) := by decide +kernel
theorem dX5_ask_48 : decode cX5_ask 48 = .ok (.ireturn, 1) := by decide +kernel
theorem dX5_answerOf_0 : decode cX5_answerOf 0 = .ok (.iload_n 1, 1) := by decide +kernel
theorem dX5_answerOf_1 : decode cX5_answerOf 1 = .ok (.lookupswitch 43 #[(1, 27), (2, 35)], 27) := by decide +kernel
theorem dX5_answerOf_28 : decode cX5_answerOf 28 = .ok (.iload_n 2, 1) := by decide +kernel
theorem dX5_answerOf_29 : decode cX5_answerOf 29 = .ok (.iload_n 3, 1) := by decide +kernel
theorem dX5_answerOf_30 : decode cX5_answerOf 30 = .ok (.iload 4, 2) := by decide +kernel
theorem dX5_answerOf_32 : decode cX5_answerOf 32 = .ok (.invokestatic 308, 3) := by decide +kernel
theorem dX5_answerOf_35 : decode cX5_answerOf 35 = .ok (.ireturn, 1) := by decide +kernel
theorem dX5_answerOf_36 : decode cX5_answerOf 36 = .ok (.iload_n 2, 1) := by decide +kernel
theorem dX5_answerOf_37 : decode cX5_answerOf 37 = .ok (.iload_n 3, 1) := by decide +kernel
theorem dX5_answerOf_38 : decode cX5_answerOf 38 = .ok (.iload 4, 2) := by decide +kernel
theorem dX5_answerOf_40 : decode cX5_answerOf 40 = .ok (.invokestatic 311, 3) := by decide +kernel
theorem dX5_answerOf_43 : decode cX5_answerOf 43 = .ok (.ireturn, 1) := by decide +kernel
theorem dX5_answerOf_44 : decode cX5_answerOf 44 = .ok (.aload_n 0, 1) := by decide +kernel
theorem dX5_answerOf_45 : decode cX5_answerOf 45 = .ok (.getfield 10, 3) := by decide +kernel
theorem dX5_answerOf_48 : decode cX5_answerOf 48 = .ok (.getfield 89, 3) := by decide +kernel
theorem dX5_answerOf_51 : decode cX5_answerOf 51 = .ok (.getfield 212, 3) := by decide +kernel
theorem dX5_answerOf_54 : decode cX5_answerOf 54 = .ok (.iload_n 2, 1) := by decide +kernel
theorem dX5_answerOf_55 : decode cX5_answerOf 55 = .ok (.invokestatic 196, 3) := by decide +kernel
theorem dX5_answerOf_58 : decode cX5_answerOf 58 = .ok (.aload_n 0, 1) := by decide +kernel
theorem dX5_answerOf_59 : decode cX5_answerOf 59 = .ok (.getfield 10, 3) := by decide +kernel
theorem dX5_answerOf_62 : decode cX5_answerOf 62 = .ok (.getfield 89, 3) := by decide +kernel
theorem dX5_answerOf_65 : decode cX5_answerOf 65 = .ok (.getfield 215, 3) := by decide +kernel
theorem dX5_answerOf_68 : decode cX5_answerOf 68 = .ok (.iload_n 2, 1) := by decide +kernel
theorem dX5_answerOf_69 : decode cX5_answerOf 69 = .ok (.invokestatic 196, 3) := by decide +kernel
theorem dX5_answerOf_72 : decode cX5_answerOf 72 = .ok (.iload 4, 2) := by decide +kernel
theorem dX5_answerOf_74 : decode cX5_answerOf 74 = .ok (.invokestatic 308, 3) := by decide +kernel
theorem dX5_answerOf_77 : decode cX5_answerOf 77 = .ok (.ireturn, 1) := by decide +kernel
theorem dX5_agreeing_0 : decode cX5_agreeing 0 = .ok (.iconst 0, 1) := by decide +kernel
theorem dX5_agreeing_1 : decode cX5_agreeing 1 = .ok (.istore 4, 2) := by decide +kernel
theorem dX5_agreeing_3 : decode cX5_agreeing 3 = .ok (.iconst 0, 1) := by decide +kernel
theorem dX5_agreeing_4 : decode cX5_agreeing 4 = .ok (.istore 5, 2) := by decide +kernel
theorem dX5_agreeing_6 : decode cX5_agreeing 6 = .ok (.iload 5, 2) := by decide +kernel
theorem dX5_agreeing_8 : decode cX5_agreeing 8 = .ok (.iload_n 3, 1) := by decide +kernel
theorem dX5_agreeing_9 : decode cX5_agreeing 9 = .ok (.if_icmp .ge 29, 3) := by decide +kernel
theorem dX5_agreeing_12 : decode cX5_agreeing 12 = .ok (.aload_n 0, 1) := by decide +kernel
theorem dX5_agreeing_13 : decode cX5_agreeing 13 = .ok (.iload_n 1, 1) := by decide +kernel
theorem dX5_agreeing_14 : decode cX5_agreeing 14 = .ok (.iload_n 2, 1) := by decide +kernel
theorem dX5_agreeing_15 : decode cX5_agreeing 15 = .ok (.iload 5, 2) := by decide +kernel
theorem dX5_agreeing_17 : decode cX5_agreeing 17 = .ok (.invokevirtual 314, 3) := by decide +kernel
theorem dX5_agreeing_20 : decode cX5_agreeing 20 = .ok (.ifCond .eq 12, 3) := by decide +kernel
theorem dX5_agreeing_23 : decode cX5_agreeing 23 = .ok (.iload 4, 2) := by decide +kernel
theorem dX5_agreeing_25 : decode cX5_agreeing 25 = .ok (.iconst 1, 1) := by decide +kernel
theorem dX5_agreeing_26 : decode cX5_agreeing 26 = .ok (.iload 5, 2) := by decide +kernel
theorem dX5_agreeing_28 : decode cX5_agreeing 28 = .ok (.ishl, 1) := by decide +kernel
theorem dX5_agreeing_29 : decode cX5_agreeing 29 = .ok (.ior, 1) := by decide +kernel
theorem dX5_agreeing_30 : decode cX5_agreeing 30 = .ok (.istore 4, 2) := by decide +kernel
theorem dX5_agreeing_32 : decode cX5_agreeing 32 = .ok (.iinc 5 1, 3) := by decide +kernel
theorem dX5_agreeing_35 : decode cX5_agreeing 35 = .ok (.goto (-29), 3) := by decide +kernel
theorem dX5_agreeing_38 : decode cX5_agreeing 38 = .ok (.iload 4, 2) := by decide +kernel
theorem dX5_agreeing_40 : decode cX5_agreeing 40 = .ok (.ireturn, 1) := by decide +kernel
theorem dX5_agrees_0 : decode cX5_agrees 0 = .ok (.aload_n 0, 1) := by decide +kernel
theorem dX5_agrees_1 : decode cX5_agrees 1 = .ok (.getfield 10, 3) := by decide +kernel
theorem dX5_agrees_4 : decode cX5_agrees 4 = .ok (.iload_n 1, 1) := by decide +kernel
theorem dX5_agrees_5 : decode cX5_agrees 5 = .ok (.invokevirtual 301, 3) := by decide +kernel
theorem dX5_agrees_8 : decode cX5_agrees 8 = .ok (.astore 4, 2) := by decide +kernel
theorem dX5_agrees_10 : decode cX5_agrees 10 = .ok (.iconst 0, 1) := by decide +kernel
theorem dX5_agrees_11 : decode cX5_agrees 11 = .ok (.istore 5, 2) := by decide +kernel
theorem dX5_agrees_13 : decode cX5_agrees 13 = .ok (.iload 5, 2) := by decide +kernel
theorem dX5_agrees_15 : decode cX5_agrees 15 = .ok (.aload 4, 2) := by decide +kernel
theorem dX5_agrees_17 : decode cX5_agrees 17 = .ok (.getfield 305, 3) := by decide +kernel
theorem dX5_agrees_20 : decode cX5_agrees 20 = .ok (.if_icmp .ge 60, 3) := by decide +kernel
theorem dX5_agrees_23 : decode cX5_agrees 23 = .ok (.aload_n 0, 1) := by decide +kernel
theorem dX5_agrees_24 : decode cX5_agrees 24 = .ok (.iload_n 1, 1) := by decide +kernel
theorem dX5_agrees_25 : decode cX5_agrees 25 = .ok (.iload_n 3, 1) := by decide +kernel
theorem dX5_agrees_26 : decode cX5_agrees 26 = .ok (.aload 4, 2) := by decide +kernel
theorem dX5_agrees_28 : decode cX5_agrees 28 = .ok (.iload 5, 2) := by decide +kernel
theorem dX5_agrees_30 : decode cX5_agrees 30 = .ok (.iconst 1, 1) := by decide +kernel
theorem dX5_agrees_31 : decode cX5_agrees 31 = .ok (.invokevirtual 317, 3) := by decide +kernel
theorem dX5_agrees_34 : decode cX5_agrees 34 = .ok (.aload 4, 2) := by decide +kernel
theorem dX5_agrees_36 : decode cX5_agrees 36 = .ok (.iload 5, 2) := by decide +kernel
theorem dX5_agrees_38 : decode cX5_agrees 38 = .ok (.iconst 2, 1) := by decide +kernel
theorem dX5_agrees_39 : decode cX5_agrees 39 = .ok (.invokevirtual 317, 3) := by decide +kernel
theorem dX5_agrees_42 : decode cX5_agrees 42 = .ok (.invokevirtual 320, 3) := by decide +kernel
theorem dX5_agrees_45 : decode cX5_agrees 45 = .ok (.istore 6, 2) := by decide +kernel
theorem dX5_agrees_47 : decode cX5_agrees 47 = .ok (.aload 4, 2) := by decide +kernel
theorem dX5_agrees_49 : decode cX5_agrees 49 = .ok (.iload 5, 2) := by decide +kernel
theorem dX5_agrees_51 : decode cX5_agrees 51 = .ok (.iconst 0, 1) := by decide +kernel
theorem dX5_agrees_52 : decode cX5_agrees 52 = .ok (.invokevirtual 317, 3) := by decide +kernel
theorem dX5_agrees_55 : decode cX5_agrees 55 = .ok (.iload_n 2, 1) := by decide +kernel
theorem dX5_agrees_56 : decode cX5_agrees 56 = .ok (.if_icmp .ne 18, 3) := by decide +kernel
theorem dX5_agrees_59 : decode cX5_agrees 59 = .ok (.iload 6, 2) := by decide +kernel
theorem dX5_agrees_61 : decode cX5_agrees 61 = .ok (.aload 4, 2) := by decide +kernel
theorem dX5_agrees_63 : decode cX5_agrees 63 = .ok (.iload 5, 2) := by decide +kernel
theorem dX5_agrees_65 : decode cX5_agrees 65 = .ok (.iconst 3, 1) := by decide +kernel
theorem dX5_agrees_66 : decode cX5_agrees 66 = .ok (.invokevirtual 317, 3) := by decide +kernel
theorem dX5_agrees_69 : decode cX5_agrees 69 = .ok (.if_icmp .eq 5, 3) := by decide +kernel
theorem dX5_agrees_72 : decode cX5_agrees 72 = .ok (.iconst 0, 1) := by decide +kernel
theorem dX5_agrees_73 : decode cX5_agrees 73 = .ok (.ireturn, 1) := by decide +kernel
theorem dX5_agrees_74 : decode cX5_agrees 74 = .ok (.iinc 5 1, 3) := by decide +kernel
theorem dX5_agrees_77 : decode cX5_agrees 77 = .ok (.goto (-64), 3) := by decide +kernel
theorem dX5_agrees_80 : decode cX5_agrees 80 = .ok (.iconst 1, 1) := by decide +kernel
theorem dX5_agrees_81 : decode cX5_agrees 81 = .ok (.ireturn, 1) := by decide +kernel
theorem dX5_bestParting_0 : decode cX5_bestParting 0 = .ok (.iload_n 3, 1) := by decide +kernel
theorem dX5_bestParting_1 : decode cX5_bestParting 1 = .ok (.ifCond .ne 5, 3) := by decide +kernel
theorem dX5_bestParting_4 : decode cX5_bestParting 4 = .ok (.iconst (-1), 1) := by decide +kernel
theorem dX5_bestParting_5 : decode cX5_bestParting 5 = .ok (.ireturn, 1) := by decide +kernel
theorem dX5_bestParting_6 : decode cX5_bestParting 6 = .ok (.iconst (-1), 1) := by decide +kernel
theorem dX5_bestParting_7 : decode cX5_bestParting 7 = .ok (.istore 5, 2) := by decide +kernel
theorem dX5_bestParting_9 : decode cX5_bestParting 9 = .ok (.bipush 8, 2) := by decide +kernel
theorem dX5_bestParting_11 : decode cX5_bestParting 11 = .ok (.istore 6, 2) := by decide +kernel
theorem dX5_bestParting_13 : decode cX5_bestParting 13 = .ok (.iconst 0, 1) := by decide +kernel
theorem dX5_bestParting_14 : decode cX5_bestParting 14 = .ok (.istore 7, 2) := by decide +kernel
theorem dX5_bestParting_16 : decode cX5_bestParting 16 = .ok (.iload 7, 2) := by decide +kernel
theorem dX5_bestParting_18 : decode cX5_bestParting 18 = .ok (.iload 4, 2) := by decide +kernel
theorem dX5_bestParting_20 : decode cX5_bestParting 20 = .ok (.if_icmp .gt 69, 3) := by decide +kernel
theorem dX5_bestParting_23 : decode cX5_bestParting 23 = .ok (.iconst 0, 1) := by decide +kernel
theorem dX5_bestParting_24 : decode cX5_bestParting 24 = .ok (.istore 8, 2) := by decide +kernel
theorem dX5_bestParting_26 : decode cX5_bestParting 26 = .ok (.iload 8, 2) := by decide +kernel
theorem dX5_bestParting_28 : decode cX5_bestParting 28 = .ok (.bipush 7, 2) := by decide +kernel
theorem dX5_bestParting_30 : decode cX5_bestParting 30 = .ok (.if_icmp .ge 28, 3) := by decide +kernel
theorem dX5_bestParting_33 : decode cX5_bestParting 33 = .ok (.aload_n 0, 1) := by decide +kernel
theorem dX5_bestParting_34 : decode cX5_bestParting 34 = .ok (.getfield 43, 3) := by decide +kernel
theorem dX5_bestParting_37 : decode cX5_bestParting 37 = .ok (.iload 8, 2) := by decide +kernel
theorem dX5_bestParting_39 : decode cX5_bestParting 39 = .ok (.aload_n 0, 1) := by decide +kernel
theorem dX5_bestParting_40 : decode cX5_bestParting 40 = .ok (.iload_n 1, 1) := by decide +kernel
theorem dX5_bestParting_41 : decode cX5_bestParting 41 = .ok (.iload 8, 2) := by decide +kernel
theorem dX5_bestParting_43 : decode cX5_bestParting 43 = .ok (.iload_n 2, 1) := by decide +kernel
theorem dX5_bestParting_44 : decode cX5_bestParting 44 = .ok (.iload 7, 2) := by decide +kernel
theorem dX5_bestParting_46 : decode cX5_bestParting 46 = .ok (.invokevirtual 320, 3) := by decide +kernel
theorem dX5_bestParting_49 : decode cX5_bestParting 49 = .ok (.invokestatic 138, 3) := by decide +kernel
theorem dX5_bestParting_52 : decode cX5_bestParting 52 = .ok (.iinc 8 1, 3) := by decide +kernel
theorem dX5_bestParting_55 : decode cX5_bestParting 55 = .ok (.goto (-29), 3) := by decide +kernel
theorem dX5_bestParting_58 : decode cX5_bestParting 58 = .ok (.aload_n 0, 1) := by decide +kernel
theorem dX5_bestParting_59 : decode cX5_bestParting 59 = .ok (.getfield 43, 3) := by decide +kernel
theorem dX5_bestParting_62 : decode cX5_bestParting 62 = .ok (.iload_n 3, 1) := by decide +kernel
theorem dX5_bestParting_63 : decode cX5_bestParting 63 = .ok (.invokestatic 323, 3) := by decide +kernel
theorem dX5_bestParting_66 : decode cX5_bestParting 66 = .ok (.istore 8, 2) := by decide +kernel
theorem dX5_bestParting_68 : decode cX5_bestParting 68 = .ok (.iload 8, 2) := by decide +kernel
theorem dX5_bestParting_70 : decode cX5_bestParting 70 = .ok (.iload 6, 2) := by decide +kernel
theorem dX5_bestParting_72 : decode cX5_bestParting 72 = .ok (.if_icmp .ge 11, 3) := by decide +kernel
theorem dX5_bestParting_75 : decode cX5_bestParting 75 = .ok (.iload 8, 2) := by decide +kernel
theorem dX5_bestParting_77 : decode cX5_bestParting 77 = .ok (.istore 6, 2) := by decide +kernel
theorem dX5_bestParting_79 : decode cX5_bestParting 79 = .ok (.iload 7, 2) := by decide +kernel
theorem dX5_bestParting_81 : decode cX5_bestParting 81 = .ok (.istore 5, 2) := by decide +kernel
theorem dX5_bestParting_83 : decode cX5_bestParting 83 = .ok (.iinc 7 1, 3) := by decide +kernel
theorem dX5_bestParting_86 : decode cX5_bestParting 86 = .ok (.goto (-70), 3) := by decide +kernel
theorem dX5_bestParting_89 : decode cX5_bestParting 89 = .ok (.iload 5, 2) := by decide +kernel
theorem dX5_bestParting_91 : decode cX5_bestParting 91 = .ok (.ireturn, 1) := by decide +kernel
theorem dX5_largestCrowd_0 : decode cX5_largestCrowd 0 = .ok (.iconst 0, 1) := by decide +kernel
theorem dX5_largestCrowd_1 : decode cX5_largestCrowd 1 = .ok (.istore_n 2, 1) := by decide +kernel
theorem dX5_largestCrowd_2 : decode cX5_largestCrowd 2 = .ok (.iconst 0, 1) := by decide +kernel
theorem dX5_largestCrowd_3 : decode cX5_largestCrowd 3 = .ok (.istore_n 3, 1) := by decide +kernel
theorem dX5_largestCrowd_4 : decode cX5_largestCrowd 4 = .ok (.iload_n 3, 1) := by decide +kernel
theorem dX5_largestCrowd_5 : decode cX5_largestCrowd 5 = .ok (.bipush 7, 2) := by decide +kernel
theorem dX5_largestCrowd_7 : decode cX5_largestCrowd 7 = .ok (.if_icmp .ge 69, 3) := by decide +kernel
theorem dX5_largestCrowd_10 : decode cX5_largestCrowd 10 = .ok (.iconst 0, 1) := by decide +kernel
theorem dX5_largestCrowd_11 : decode cX5_largestCrowd 11 = .ok (.istore 4, 2) := by decide +kernel
theorem dX5_largestCrowd_13 : decode cX5_largestCrowd 13 = .ok (.iconst 0, 1) := by decide +kernel
theorem dX5_largestCrowd_14 : decode cX5_largestCrowd 14 = .ok (.istore 5, 2) := by decide +kernel
theorem dX5_largestCrowd_16 : decode cX5_largestCrowd 16 = .ok (.iload 5, 2) := by decide +kernel
theorem dX5_largestCrowd_18 : decode cX5_largestCrowd 18 = .ok (.bipush 7, 2) := by decide +kernel
theorem dX5_largestCrowd_20 : decode cX5_largestCrowd 20 = .ok (.if_icmp .ge 35, 3) := by decide +kernel
theorem dX5_largestCrowd_23 : decode cX5_largestCrowd 23 = .ok (.iload_n 1, 1) := by decide +kernel
theorem dX5_largestCrowd_24 : decode cX5_largestCrowd 24 = .ok (.iload 5, 2) := by decide +kernel
theorem dX5_largestCrowd_26 : decode cX5_largestCrowd 26 = .ok (.invokestatic 270, 3) := by decide +kernel
theorem dX5_largestCrowd_29 : decode cX5_largestCrowd 29 = .ok (.ifCond .eq 20, 3) := by decide +kernel
theorem dX5_largestCrowd_32 : decode cX5_largestCrowd 32 = .ok (.aload_n 0, 1) := by decide +kernel
theorem dX5_largestCrowd_33 : decode cX5_largestCrowd 33 = .ok (.iload 5, 2) := by decide +kernel
theorem dX5_largestCrowd_35 : decode cX5_largestCrowd 35 = .ok (.invokestatic 196, 3) := by decide +kernel
theorem dX5_largestCrowd_38 : decode cX5_largestCrowd 38 = .ok (.aload_n 0, 1) := by decide +kernel
theorem dX5_largestCrowd_39 : decode cX5_largestCrowd 39 = .ok (.iload_n 3, 1) := by decide +kernel
theorem dX5_largestCrowd_40 : decode cX5_largestCrowd 40 = .ok (.invokestatic 196, 3) := by decide +kernel
theorem dX5_largestCrowd_43 : decode cX5_largestCrowd 43 = .ok (.if_icmp .ne 6, 3) := by decide +kernel
theorem dX5_largestCrowd_46 : decode cX5_largestCrowd 46 = .ok (.iinc 4 1, 3) := by decide +kernel
theorem dX5_largestCrowd_49 : decode cX5_largestCrowd 49 = .ok (.iinc 5 1, 3) := by decide +kernel
theorem dX5_largestCrowd_52 : decode cX5_largestCrowd 52 = .ok (.goto (-36), 3) := by decide +kernel
theorem dX5_largestCrowd_55 : decode cX5_largestCrowd 55 = .ok (.iload_n 1, 1) := by decide +kernel
theorem dX5_largestCrowd_56 : decode cX5_largestCrowd 56 = .ok (.iload_n 3, 1) := by decide +kernel
theorem dX5_largestCrowd_57 : decode cX5_largestCrowd 57 = .ok (.invokestatic 270, 3) := by decide +kernel
theorem dX5_largestCrowd_60 : decode cX5_largestCrowd 60 = .ok (.ifCond .eq 10, 3) := by decide +kernel
theorem dX5_largestCrowd_63 : decode cX5_largestCrowd 63 = .ok (.iload_n 2, 1) := by decide +kernel
theorem dX5_largestCrowd_64 : decode cX5_largestCrowd 64 = .ok (.iload 4, 2) := by decide +kernel
theorem dX5_largestCrowd_66 : decode cX5_largestCrowd 66 = .ok (.invokestatic 83, 3) := by decide +kernel
theorem dX5_largestCrowd_69 : decode cX5_largestCrowd 69 = .ok (.istore_n 2, 1) := by decide +kernel
theorem dX5_largestCrowd_70 : decode cX5_largestCrowd 70 = .ok (.iinc 3 1, 3) := by decide +kernel
theorem dX5_largestCrowd_73 : decode cX5_largestCrowd 73 = .ok (.goto (-69), 3) := by decide +kernel
theorem dX5_largestCrowd_76 : decode cX5_largestCrowd 76 = .ok (.iload_n 2, 1) := by decide +kernel
theorem dX5_largestCrowd_77 : decode cX5_largestCrowd 77 = .ok (.ireturn, 1) := by decide +kernel
theorem dX5_bids_0 : decode cX5_bids 0 = .ok (.aload_n 0, 1) := by decide +kernel
theorem dX5_bids_1 : decode cX5_bids 1 = .ok (.getfield 10, 3) := by decide +kernel
theorem dX5_bids_4 : decode cX5_bids 4 = .ok (.getfield 89, 3) := by decide +kernel
theorem dX5_bids_7 : decode cX5_bids 7 = .ok (.astore 6, 2) := by decide +kernel
theorem dX5_bids_9 : decode cX5_bids 9 = .ok (.aload 6, 2) := by decide +kernel
theorem dX5_bids_11 : decode cX5_bids 11 = .ok (.iload_n 1, 1) := by decide +kernel
theorem dX5_bids_12 : decode cX5_bids 12 = .ok (.invokevirtual 175, 3) := by decide +kernel
theorem dX5_bids_15 : decode cX5_bids 15 = .ok (.ifCond .eq 23, 3) := by decide +kernel
theorem dX5_bids_18 : decode cX5_bids 18 = .ok (.aload 6, 2) := by decide +kernel
theorem dX5_bids_20 : decode cX5_bids 20 = .ok (.iload_n 2, 1) := by decide +kernel
theorem dX5_bids_21 : decode cX5_bids 21 = .ok (.invokevirtual 175, 3) := by decide +kernel
theorem dX5_bids_24 : decode cX5_bids 24 = .ok (.ifCond .eq 14, 3) := by decide +kernel
theorem dX5_bids_27 : decode cX5_bids 27 = .ok (.iload_n 1, 1) := by decide +kernel
theorem dX5_bids_28 : decode cX5_bids 28 = .ok (.iload_n 2, 1) := by decide +kernel
theorem dX5_bids_29 : decode cX5_bids 29 = .ok (.if_icmp .eq 9, 3) := by decide +kernel
theorem dX5_bids_32 : decode cX5_bids 32 = .ok (.iload 5, 2) := by decide +kernel
theorem dX5_bids_34 : decode cX5_bids 34 = .ok (.iconst (-1), 1) := by decide +kernel
theorem dX5_bids_35 : decode cX5_bids 35 = .ok (.if_icmp .ge 10, 3) := by decide +kernel
theorem dX5_bids_38 : decode cX5_bids 38 = .ok (.aload_n 0, 1) := by decide +kernel
theorem dX5_bids_39 : decode cX5_bids 39 = .ok (.bipush (-10), 2) := by decide +kernel
theorem dX5_bids_41 : decode cX5_bids 41 = .ok (.invokevirtual 73, 3) := by decide +kernel
theorem dX5_bids_44 : decode cX5_bids 44 = .ok (.ireturn, 1) := by decide +kernel
theorem dX5_bids_45 : decode cX5_bids 45 = .ok (.aload 6, 2) := by decide +kernel
theorem dX5_bids_47 : decode cX5_bids 47 = .ok (.iload_n 3, 1) := by decide +kernel
theorem dX5_bids_48 : decode cX5_bids 48 = .ok (.invokevirtual 179, 3) := by decide +kernel
theorem dX5_bids_51 : decode cX5_bids 51 = .ok (.ifCond .eq 13, 3) := by decide +kernel
theorem dX5_bids_54 : decode cX5_bids 54 = .ok (.aload 6, 2) := by decide +kernel
theorem dX5_bids_56 : decode cX5_bids 56 = .ok (.iload 4, 2) := by decide +kernel
theorem dX5_bids_58 : decode cX5_bids 58 = .ok (.invokevirtual 200, 3) := by decide +kernel
theorem dX5_bids_61 : decode cX5_bids 61 = .ok (.ifCond .ne 10, 3) := by decide +kernel
theorem dX5_bids_64 : decode cX5_bids 64 = .ok (.aload_n 0, 1) := by decide +kernel
theorem dX5_bids_65 : decode cX5_bids 65 = .ok (.bipush (-10), 2) := by decide +kernel
theorem dX5_bids_67 : decode cX5_bids 67 = .ok (.invokevirtual 73, 3) := by decide +kernel
theorem dX5_bids_70 : decode cX5_bids 70 = .ok (.ireturn, 1) := by decide +kernel
theorem dX5_bids_71 : decode cX5_bids 71 = .ok (.aload 6, 2) := by decide +kernel
theorem dX5_bids_73 : decode cX5_bids 73 = .ok (.iload_n 3, 1) := by decide +kernel
theorem dX5_bids_74 : decode cX5_bids 74 = .ok (.iload 4, 2) := by decide +kernel
theorem dX5_bids_76 : decode cX5_bids 76 = .ok (.invokevirtual 239, 3) := by decide +kernel
theorem dX5_bids_79 : decode cX5_bids 79 = .ok (.istore 7, 2) := by decide +kernel
theorem dX5_bids_81 : decode cX5_bids 81 = .ok (.iconst 0, 1) := by decide +kernel
theorem dX5_bids_82 : decode cX5_bids 82 = .ok (.istore 8, 2) := by decide +kernel
theorem dX5_bids_84 : decode cX5_bids 84 = .ok (.iconst 0, 1) := by decide +kernel
theorem dX5_bids_85 : decode cX5_bids 85 = .ok (.istore 9, 2) := by decide +kernel
theorem dX5_bids_87 : decode cX5_bids 87 = .ok (.iload 9, 2) := by decide +kernel
theorem dX5_bids_89 : decode cX5_bids 89 = .ok (.bipush 9, 2) := by decide +kernel
theorem dX5_bids_91 : decode cX5_bids 91 = .ok (.if_icmp .gt 56, 3) := by decide +kernel
theorem dX5_bids_94 : decode cX5_bids 94 = .ok (.iconst 0, 1) := by decide +kernel
theorem dX5_bids_95 : decode cX5_bids 95 = .ok (.istore 10, 2) := by decide +kernel
theorem dX5_bids_97 : decode cX5_bids 97 = .ok (.iload 10, 2) := by decide +kernel
theorem dX5_bids_99 : decode cX5_bids 99 = .ok (.bipush 9, 2) := by decide +kernel
theorem dX5_bids_101 : decode cX5_bids 101 = .ok (.if_icmp .gt 40, 3) := by decide +kernel
theorem dX5_bids_104 : decode cX5_bids 104 = .ok (.iload 7, 2) := by decide +kernel
theorem dX5_bids_106 : decode cX5_bids 106 = .ok (.iload 9, 2) := by decide +kernel
theorem dX5_bids_108 : decode cX5_bids 108 = .ok (.iload 10, 2) := by decide +kernel
theorem dX5_bids_110 : decode cX5_bids 110 = .ok (.invokestatic 326, 3) := by decide +kernel
theorem dX5_bids_113 : decode cX5_bids 113 = .ok (.ifCond .eq 22, 3) := by decide +kernel
theorem dX5_bids_116 : decode cX5_bids 116 = .ok (.iload 8, 2) := by decide +kernel
theorem dX5_bids_118 : decode cX5_bids 118 = .ok (.iload 5, 2) := by decide +kernel
theorem dX5_bids_120 : decode cX5_bids 120 = .ok (.if_icmp .ne 12, 3) := by decide +kernel
theorem dX5_bids_123 : decode cX5_bids 123 = .ok (.bipush 10, 2) := by decide +kernel
theorem dX5_bids_125 : decode cX5_bids 125 = .ok (.iload 9, 2) := by decide +kernel
theorem dX5_bids_127 : decode cX5_bids 127 = .ok (.imul, 1) := by decide +kernel
theorem dX5_bids_128 : decode cX5_bids 128 = .ok (.iload 10, 2) := by decide +kernel
theorem dX5_bids_130 : decode cX5_bids 130 = .ok (.iadd, 1) := by decide +kernel
theorem dX5_bids_131 : decode cX5_bids 131 = .ok (.ireturn, 1) := by decide +kernel
theorem dX5_bids_132 : decode cX5_bids 132 = .ok (.iinc 8 1, 3) := by decide +kernel
theorem dX5_bids_135 : decode cX5_bids 135 = .ok (.iinc 10 1, 3) := by decide +kernel
theorem dX5_bids_138 : decode cX5_bids 138 = .ok (.goto (-41), 3) := by decide +kernel
theorem dX5_bids_141 : decode cX5_bids 141 = .ok (.iinc 9 1, 3) := by decide +kernel
theorem dX5_bids_144 : decode cX5_bids 144 = .ok (.goto (-57), 3) := by decide +kernel
theorem dX5_bids_147 : decode cX5_bids 147 = .ok (.iload 5, 2) := by decide +kernel
theorem dX5_bids_149 : decode cX5_bids 149 = .ok (.iconst (-1), 1) := by decide +kernel
theorem dX5_bids_150 : decode cX5_bids 150 = .ok (.if_icmp .ne 8, 3) := by decide +kernel
theorem dX5_bids_153 : decode cX5_bids 153 = .ok (.iload 8, 2) := by decide +kernel
theorem dX5_bids_155 : decode cX5_bids 155 = .ok (.goto 5, 3) := by decide +kernel
theorem dX5_bids_158 : decode cX5_bids 158 = .ok (.bipush (-5), 2) := by decide +kernel
theorem dX5_bids_160 : decode cX5_bids 160 = .ok (.ireturn, 1) := by decide +kernel
theorem dX5_firstGets_0 : decode cX5_firstGets 0 = .ok (.iload_n 1, 1) := by decide +kernel
theorem dX5_firstGets_1 : decode cX5_firstGets 1 = .ok (.iload_n 2, 1) := by decide +kernel
theorem dX5_firstGets_2 : decode cX5_firstGets 2 = .ok (.if_icmp .lt 9, 3) := by decide +kernel
theorem dX5_firstGets_5 : decode cX5_firstGets 5 = .ok (.iload_n 0, 1) := by decide +kernel
theorem dX5_firstGets_6 : decode cX5_firstGets 6 = .ok (.iload_n 1, 1) := by decide +kernel
theorem dX5_firstGets_7 : decode cX5_firstGets 7 = .ok (.iconst 3, 1) := by decide +kernel
theorem dX5_firstGets_8 : decode cX5_firstGets 8 = .ok (.idiv, 1) := by decide +kernel
theorem dX5_firstGets_9 : decode cX5_firstGets 9 = .ok (.isub, 1) := by decide +kernel
theorem dX5_firstGets_10 : decode cX5_firstGets 10 = .ok (.ireturn, 1) := by decide +kernel
theorem dX5_firstGets_11 : decode cX5_firstGets 11 = .ok (.iload_n 2, 1) := by decide +kernel
theorem dX5_firstGets_12 : decode cX5_firstGets 12 = .ok (.iconst 5, 1) := by decide +kernel
theorem dX5_firstGets_13 : decode cX5_firstGets 13 = .ok (.if_icmp .le 7, 3) := by decide +kernel
theorem dX5_firstGets_16 : decode cX5_firstGets 16 = .ok (.iconst 1, 1) := by decide +kernel
theorem dX5_firstGets_17 : decode cX5_firstGets 17 = .ok (.goto 4, 3) := by decide +kernel
theorem dX5_firstGets_20 : decode cX5_firstGets 20 = .ok (.iconst 0, 1) := by decide +kernel
theorem dX5_firstGets_21 : decode cX5_firstGets 21 = .ok (.ireturn, 1) := by decide +kernel
theorem dX5_secondGets_0 : decode cX5_secondGets 0 = .ok (.iload_n 2, 1) := by decide +kernel
theorem dX5_secondGets_1 : decode cX5_secondGets 1 = .ok (.iload_n 1, 1) := by decide +kernel
theorem dX5_secondGets_2 : decode cX5_secondGets 2 = .ok (.if_icmp .le 9, 3) := by decide +kernel
theorem dX5_secondGets_5 : decode cX5_secondGets 5 = .ok (.iload_n 0, 1) := by decide +kernel
theorem dX5_secondGets_6 : decode cX5_secondGets 6 = .ok (.iload_n 2, 1) := by decide +kernel
theorem dX5_secondGets_7 : decode cX5_secondGets 7 = .ok (.iconst 3, 1) := by decide +kernel
theorem dX5_secondGets_8 : decode cX5_secondGets 8 = .ok (.idiv, 1) := by decide +kernel
theorem dX5_secondGets_9 : decode cX5_secondGets 9 = .ok (.isub, 1) := by decide +kernel
theorem dX5_secondGets_10 : decode cX5_secondGets 10 = .ok (.ireturn, 1) := by decide +kernel
theorem dX5_secondGets_11 : decode cX5_secondGets 11 = .ok (.iload_n 1, 1) := by decide +kernel
theorem dX5_secondGets_12 : decode cX5_secondGets 12 = .ok (.iconst 5, 1) := by decide +kernel
theorem dX5_secondGets_13 : decode cX5_secondGets 13 = .ok (.if_icmp .le 7, 3) := by decide +kernel
theorem dX5_secondGets_16 : decode cX5_secondGets 16 = .ok (.iconst 1, 1) := by decide +kernel
theorem dX5_secondGets_17 : decode cX5_secondGets 17 = .ok (.goto 4, 3) := by decide +kernel
theorem dX5_secondGets_20 : decode cX5_secondGets 20 = .ok (.iconst 0, 1) := by decide +kernel
theorem dX5_secondGets_21 : decode cX5_secondGets 21 = .ok (.ireturn, 1) := by decide +kernel
theorem dX5_rests_0 : decode cX5_rests 0 = .ok (.iload_n 0, 1) := by decide +kernel
theorem dX5_rests_1 : decode cX5_rests 1 = .ok (.iload_n 1, 1) := by decide +kernel
theorem dX5_rests_2 : decode cX5_rests 2 = .ok (.iload_n 2, 1) := by decide +kernel
theorem dX5_rests_3 : decode cX5_rests 3 = .ok (.invokestatic 329, 3) := by decide +kernel
theorem dX5_rests_6 : decode cX5_rests 6 = .ok (.istore_n 3, 1) := by decide +kernel
theorem dX5_rests_7 : decode cX5_rests 7 = .ok (.iload_n 0, 1) := by decide +kernel
theorem dX5_rests_8 : decode cX5_rests 8 = .ok (.iload_n 1, 1) := by decide +kernel
theorem dX5_rests_9 : decode cX5_rests 9 = .ok (.iload_n 2, 1) := by decide +kernel
theorem dX5_rests_10 : decode cX5_rests 10 = .ok (.invokestatic 332, 3) := by decide +kernel
theorem dX5_rests_13 : decode cX5_rests 13 = .ok (.istore 4, 2) := by decide +kernel
theorem dX5_rests_15 : decode cX5_rests 15 = .ok (.iconst 0, 1) := by decide +kernel
theorem dX5_rests_16 : decode cX5_rests 16 = .ok (.istore 5, 2) := by decide +kernel
theorem dX5_rests_18 : decode cX5_rests 18 = .ok (.iload 5, 2) := by decide +kernel
theorem dX5_rests_20 : decode cX5_rests 20 = .ok (.bipush 9, 2) := by decide +kernel
theorem dX5_rests_22 : decode cX5_rests 22 = .ok (.if_icmp .gt 34, 3) := by decide +kernel
theorem dX5_rests_25 : decode cX5_rests 25 = .ok (.iload_n 0, 1) := by decide +kernel
theorem dX5_rests_26 : decode cX5_rests 26 = .ok (.iload 5, 2) := by decide +kernel
theorem dX5_rests_28 : decode cX5_rests 28 = .ok (.iload_n 2, 1) := by decide +kernel
theorem dX5_rests_29 : decode cX5_rests 29 = .ok (.invokestatic 329, 3) := by decide +kernel
theorem dX5_rests_32 : decode cX5_rests 32 = .ok (.iload_n 3, 1) := by decide +kernel
theorem dX5_rests_33 : decode cX5_rests 33 = .ok (.if_icmp .gt 15, 3) := by decide +kernel
theorem dX5_rests_36 : decode cX5_rests 36 = .ok (.iload_n 0, 1) := by decide +kernel
theorem dX5_rests_37 : decode cX5_rests 37 = .ok (.iload_n 1, 1) := by decide +kernel
theorem dX5_rests_38 : decode cX5_rests 38 = .ok (.iload 5, 2) := by decide +kernel
theorem dX5_rests_40 : decode cX5_rests 40 = .ok (.invokestatic 332, 3) := by decide +kernel
theorem dX5_rests_43 : decode cX5_rests 43 = .ok (.iload 4, 2) := by decide +kernel
theorem dX5_rests_45 : decode cX5_rests 45 = .ok (.if_icmp .le 5, 3) := by decide +kernel
theorem dX5_rests_48 : decode cX5_rests 48 = .ok (.iconst 0, 1) := by decide +kernel
theorem dX5_rests_49 : decode cX5_rests 49 = .ok (.ireturn, 1) := by decide +kernel
theorem dX5_rests_50 : decode cX5_rests 50 = .ok (.iinc 5 1, 3) := by decide +kernel
theorem dX5_rests_53 : decode cX5_rests 53 = .ok (.goto (-35), 3) := by decide +kernel
theorem dX5_rests_56 : decode cX5_rests 56 = .ok (.iconst 1, 1) := by decide +kernel
theorem dX5_rests_57 : decode cX5_rests 57 = .ok (.ireturn, 1) := by decide +kernel
theorem dX5_redeemed_0 : decode cX5_redeemed 0 = .ok (.iload_n 1, 1) := by decide +kernel
theorem dX5_redeemed_1 : decode cX5_redeemed 1 = .ok (.iconst 0, 1) := by decide +kernel
theorem dX5_redeemed_2 : decode cX5_redeemed 2 = .ok (.bipush 10, 2) := by decide +kernel
theorem dX5_redeemed_4 : decode cX5_redeemed 4 = .ok (.invokestatic 98, 3) := by decide +kernel
theorem dX5_redeemed_7 : decode cX5_redeemed 7 = .ok (.ifCond .ne 8, 3) := by decide +kernel
theorem dX5_redeemed_10 : decode cX5_redeemed 10 = .ok (.aload_n 0, 1) := by decide +kernel
theorem dX5_redeemed_11 : decode cX5_redeemed 11 = .ok (.invokevirtual 102, 3) := by decide +kernel
theorem dX5_redeemed_14 : decode cX5_redeemed 14 = .ok (.ireturn, 1) := by decide +kernel
theorem dX5_redeemed_15 : decode cX5_redeemed 15 = .ok (.aload_n 0, 1) := by decide +kernel
theorem dX5_redeemed_16 : decode cX5_redeemed 16 = .ok (.invokevirtual 245, 3) := by decide +kernel
theorem dX5_redeemed_19 : decode cX5_redeemed 19 = .ok (.aload_n 0, 1) := by decide +kernel
theorem dX5_redeemed_20 : decode cX5_redeemed 20 = .ok (.getfield 40, 3) := by decide +kernel
theorem dX5_redeemed_23 : decode cX5_redeemed 23 = .ok (.iconst 0, 1) := by decide +kernel
theorem dX5_redeemed_24 : decode cX5_redeemed 24 = .ok (.aload_n 0, 1) := by decide +kernel
theorem dX5_redeemed_25 : decode cX5_redeemed 25 = .ok (.getfield 10, 3) := by decide +kernel
theorem dX5_redeemed_28 : decode cX5_redeemed 28 = .ok (.getfield 89, 3) := by decide +kernel
theorem dX5_redeemed_31 : decode cX5_redeemed 31 = .ok (.iconst 0, 1) := by decide +kernel
theorem dX5_redeemed_32 : decode cX5_redeemed 32 = .ok (.invokevirtual 236, 3) := by decide +kernel
theorem dX5_redeemed_35 : decode cX5_redeemed 35 = .ok (.invokestatic 262, 3) := by decide +kernel
theorem dX5_redeemed_38 : decode cX5_redeemed 38 = .ok (.istore_n 2, 1) := by decide +kernel
theorem dX5_redeemed_39 : decode cX5_redeemed 39 = .ok (.aload_n 0, 1) := by decide +kernel
theorem dX5_redeemed_40 : decode cX5_redeemed 40 = .ok (.iload_n 2, 1) := by decide +kernel
theorem dX5_redeemed_41 : decode cX5_redeemed 41 = .ok (.i2l, 1) := by decide +kernel
theorem dX5_redeemed_42 : decode cX5_redeemed 42 = .ok (.bipush 10, 2) := by decide +kernel
theorem dX5_redeemed_44 : decode cX5_redeemed 44 = .ok (.iload_n 1, 1) := by decide +kernel
theorem dX5_redeemed_45 : decode cX5_redeemed 45 = .ok (.isub, 1) := by decide +kernel
theorem dX5_redeemed_46 : decode cX5_redeemed 46 = .ok (.i2l, 1) := by decide +kernel
theorem dX5_redeemed_47 : decode cX5_redeemed 47 = .ok (.lmul, 1) := by decide +kernel
theorem dX5_redeemed_48 : decode cX5_redeemed 48 = .ok (.ldc2_w 335, 3) := by decide +kernel
theorem dX5_redeemed_51 : decode cX5_redeemed 51 = .ok (.invokevirtual 337, 3) := by decide +kernel
theorem dX5_redeemed_54 : decode cX5_redeemed 54 = .ok (.iconst 1, 1) := by decide +kernel
theorem dX5_redeemed_55 : decode cX5_redeemed 55 = .ok (.ireturn, 1) := by decide +kernel
theorem dX5_setFraction_0 : decode cX5_setFraction 0 = .ok (.lload_n 1, 1) := by decide +kernel
theorem dX5_setFraction_1 : decode cX5_setFraction 1 = .ok (.lload_n 3, 1) := by decide +kernel
theorem dX5_setFraction_2 : decode cX5_setFraction 2 = .ok (.invokestatic 341, 3) := by decide +kernel
theorem dX5_setFraction_5 : decode cX5_setFraction 5 = .ok (.lstore 5, 2) := by decide +kernel
theorem dX5_setFraction_7 : decode cX5_setFraction 7 = .ok (.aload_n 0, 1) := by decide +kernel
theorem dX5_setFraction_8 : decode cX5_setFraction 8 = .ok (.lload 5, 2) := by decide +kernel
theorem dX5_setFraction_10 : decode cX5_setFraction 10 = .ok (.lconst 0, 1) := by decide +kernel
theorem dX5_setFraction_11 : decode cX5_setFraction 11 = .ok (.lcmp, 1) := by decide +kernel
theorem dX5_setFraction_12 : decode cX5_setFraction 12 = .ok (.ifCond .le 10, 3) := by decide +kernel
theorem dX5_setFraction_15 : decode cX5_setFraction 15 = .ok (.lload_n 1, 1) := by decide +kernel
theorem dX5_setFraction_16 : decode cX5_setFraction 16 = .ok (.lload 5, 2) := by decide +kernel
theorem dX5_setFraction_18 : decode cX5_setFraction 18 = .ok (.ldiv, 1) := by decide +kernel
theorem dX5_setFraction_19 : decode cX5_setFraction 19 = .ok (.goto 4, 3) := by decide +kernel
theorem dX5_setFraction_22 : decode cX5_setFraction 22 = .ok (.lconst 0, 1) := by decide +kernel
theorem dX5_setFraction_23 : decode cX5_setFraction 23 = .ok (.putfield 46, 3) := by decide +kernel
theorem dX5_setFraction_26 : decode cX5_setFraction 26 = .ok (.aload_n 0, 1) := by decide +kernel
theorem dX5_setFraction_27 : decode cX5_setFraction 27 = .ok (.lload 5, 2) := by decide +kernel
theorem dX5_setFraction_29 : decode cX5_setFraction 29 = .ok (.lconst 0, 1) := by decide +kernel
theorem dX5_setFraction_30 : decode cX5_setFraction 30 = .ok (.lcmp, 1) := by decide +kernel
theorem dX5_setFraction_31 : decode cX5_setFraction 31 = .ok (.ifCond .le 10, 3) := by decide +kernel
theorem dX5_setFraction_34 : decode cX5_setFraction 34 = .ok (.lload_n 3, 1) := by decide +kernel
theorem dX5_setFraction_35 : decode cX5_setFraction 35 = .ok (.lload 5, 2) := by decide +kernel
theorem dX5_setFraction_37 : decode cX5_setFraction 37 = .ok (.ldiv, 1) := by decide +kernel
theorem dX5_setFraction_38 : decode cX5_setFraction 38 = .ok (.goto 4, 3) := by decide +kernel
theorem dX5_setFraction_41 : decode cX5_setFraction 41 = .ok (.lconst 1, 1) := by decide +kernel
theorem dX5_setFraction_42 : decode cX5_setFraction 42 = .ok (.putfield 50, 3) := by decide +kernel
theorem dX5_setFraction_45 : decode cX5_setFraction 45 = .ok (.return_, 1) := by decide +kernel
theorem dX5_commonDivisor_0 : decode cX5_commonDivisor 0 = .ok (.lload_n 0, 1) := by decide +kernel
theorem dX5_commonDivisor_1 : decode cX5_commonDivisor 1 = .ok (.lstore 4, 2) := by decide +kernel
theorem dX5_commonDivisor_3 : decode cX5_commonDivisor 3 = .ok (.lload_n 2, 1) := by decide +kernel
theorem dX5_commonDivisor_4 : decode cX5_commonDivisor 4 = .ok (.lstore 6, 2) := by decide +kernel
theorem dX5_commonDivisor_6 : decode cX5_commonDivisor 6 = .ok (.iconst 0, 1) := by decide +kernel
theorem dX5_commonDivisor_7 : decode cX5_commonDivisor 7 = .ok (.istore 8, 2) := by decide +kernel
theorem dX5_commonDivisor_9 : decode cX5_commonDivisor 9 = .ok (.iload 8, 2) := by decide +kernel
theorem dX5_commonDivisor_11 : decode cX5_commonDivisor 11 = .ok (.bipush 100, 2) := by decide +kernel
theorem dX5_commonDivisor_13 : decode cX5_commonDivisor 13 = .ok (.if_icmp .ge 31, 3) := by decide +kernel
theorem dX5_commonDivisor_16 : decode cX5_commonDivisor 16 = .ok (.lload 6, 2) := by decide +kernel
theorem dX5_commonDivisor_18 : decode cX5_commonDivisor 18 = .ok (.lconst 0, 1) := by decide +kernel
theorem dX5_commonDivisor_19 : decode cX5_commonDivisor 19 = .ok (.lcmp, 1) := by decide +kernel
theorem dX5_commonDivisor_20 : decode cX5_commonDivisor 20 = .ok (.ifCond .eq 24, 3) := by decide +kernel
theorem dX5_commonDivisor_23 : decode cX5_commonDivisor 23 = .ok (.lload 4, 2) := by decide +kernel
theorem dX5_commonDivisor_25 : decode cX5_commonDivisor 25 = .ok (.lload 6, 2) := by decide +kernel
theorem dX5_commonDivisor_27 : decode cX5_commonDivisor 27 = .ok (.lrem, 1) := by decide +kernel
theorem dX5_commonDivisor_28 : decode cX5_commonDivisor 28 = .ok (.lstore 9, 2) := by decide +kernel
theorem dX5_commonDivisor_30 : decode cX5_commonDivisor 30 = .ok (.lload 6, 2) := by decide +kernel
theorem dX5_commonDivisor_32 : decode cX5_commonDivisor 32 = .ok (.lstore 4, 2) := by decide +kernel
theorem dX5_commonDivisor_34 : decode cX5_commonDivisor 34 = .ok (.lload 9, 2) := by decide +kernel
theorem dX5_commonDivisor_36 : decode cX5_commonDivisor 36 = .ok (.lstore 6, 2) := by decide +kernel
theorem dX5_commonDivisor_38 : decode cX5_commonDivisor 38 = .ok (.iinc 8 1, 3) := by decide +kernel
theorem dX5_commonDivisor_41 : decode cX5_commonDivisor 41 = .ok (.goto (-32), 3) := by decide +kernel
theorem dX5_commonDivisor_44 : decode cX5_commonDivisor 44 = .ok (.lload 4, 2) := by decide +kernel
theorem dX5_commonDivisor_46 : decode cX5_commonDivisor 46 = .ok (.lreturn, 1) := by decide +kernel
theorem dX5_years_0 : decode cX5_years 0 = .ok (.iload_n 1, 1) := by decide +kernel
theorem dX5_years_1 : decode cX5_years 1 = .ok (.iconst 0, 1) := by decide +kernel
theorem dX5_years_2 : decode cX5_years 2 = .ok (.ldc_w 345, 3) := by decide +kernel
theorem dX5_years_5 : decode cX5_years 5 = .ok (.invokestatic 98, 3) := by decide +kernel
theorem dX5_years_8 : decode cX5_years 8 = .ok (.ifCond .eq 13, 3) := by decide +kernel
theorem dX5_years_11 : decode cX5_years 11 = .ok (.iload_n 2, 1) := by decide +kernel
theorem dX5_years_12 : decode cX5_years 12 = .ok (.iconst 0, 1) := by decide +kernel
theorem dX5_years_13 : decode cX5_years 13 = .ok (.bipush 60, 2) := by decide +kernel
theorem dX5_years_15 : decode cX5_years 15 = .ok (.invokestatic 98, 3) := by decide +kernel
theorem dX5_years_18 : decode cX5_years 18 = .ok (.ifCond .ne 8, 3) := by decide +kernel
theorem dX5_years_21 : decode cX5_years 21 = .ok (.aload_n 0, 1) := by decide +kernel
theorem dX5_years_22 : decode cX5_years 22 = .ok (.invokevirtual 102, 3) := by decide +kernel
theorem dX5_years_25 : decode cX5_years 25 = .ok (.ireturn, 1) := by decide +kernel
theorem dX5_years_26 : decode cX5_years 26 = .ok (.aload_n 0, 1) := by decide +kernel
theorem dX5_years_27 : decode cX5_years 27 = .ok (.getfield 32, 3) := by decide +kernel
theorem dX5_years_30 : decode cX5_years 30 = .ok (.aload_n 0, 1) := by decide +kernel
theorem dX5_years_31 : decode cX5_years 31 = .ok (.getfield 10, 3) := by decide +kernel
theorem dX5_years_34 : decode cX5_years 34 = .ok (.getfield 89, 3) := by decide +kernel
theorem dX5_years_37 : decode cX5_years 37 = .ok (.invokevirtual 158, 3) := by decide +kernel
theorem dX5_years_40 : decode cX5_years 40 = .ok (.iload_n 1, 1) := by decide +kernel
theorem dX5_years_41 : decode cX5_years 41 = .ok (.i2l, 1) := by decide +kernel
theorem dX5_years_42 : decode cX5_years 42 = .ok (.lstore_n 3, 1) := by decide +kernel
theorem dX5_years_43 : decode cX5_years 43 = .ok (.iconst 0, 1) := by decide +kernel
theorem dX5_years_44 : decode cX5_years 44 = .ok (.istore 5, 2) := by decide +kernel
theorem dX5_years_46 : decode cX5_years 46 = .ok (.iload 5, 2) := by decide +kernel
theorem dX5_years_48 : decode cX5_years 48 = .ok (.iload_n 2, 1) := by decide +kernel
theorem dX5_years_49 : decode cX5_years 49 = .ok (.if_icmp .ge 91, 3) := by decide +kernel
theorem dX5_years_52 : decode cX5_years 52 = .ok (.lload_n 3, 1) := by decide +kernel
theorem dX5_years_53 : decode cX5_years 53 = .ok (.ldc2_w 346, 3) := by decide +kernel
theorem dX5_years_56 : decode cX5_years 56 = .ok (.lmul, 1) := by decide +kernel
theorem dX5_years_57 : decode cX5_years 57 = .ok (.ldc2_w 348, 3) := by decide +kernel
theorem dX5_years_60 : decode cX5_years 60 = .ok (.ladd, 1) := by decide +kernel
theorem dX5_years_61 : decode cX5_years 61 = .ok (.ldc2_w 350, 3) := by decide +kernel
theorem dX5_years_64 : decode cX5_years 64 = .ok (.lrem, 1) := by decide +kernel
theorem dX5_years_65 : decode cX5_years 65 = .ok (.lstore_n 3, 1) := by decide +kernel
theorem dX5_years_66 : decode cX5_years 66 = .ok (.lload_n 3, 1) := by decide +kernel
theorem dX5_years_67 : decode cX5_years 67 = .ok (.ldc2_w 352, 3) := by decide +kernel
theorem dX5_years_70 : decode cX5_years 70 = .ok (.ldiv, 1) := by decide +kernel
theorem dX5_years_71 : decode cX5_years 71 = .ok (.ldc2_w 354, 3) := by decide +kernel
theorem dX5_years_74 : decode cX5_years 74 = .ok (.lrem, 1) := by decide +kernel
theorem dX5_years_75 : decode cX5_years 75 = .ok (.l2i, 1) := by decide +kernel
theorem dX5_years_76 : decode cX5_years 76 = .ok (.istore 6, 2) := by decide +kernel
theorem dX5_years_78 : decode cX5_years 78 = .ok (.lload_n 3, 1) := by decide +kernel
theorem dX5_years_79 : decode cX5_years 79 = .ok (.ldc2_w 356, 3) := by decide +kernel
theorem dX5_years_82 : decode cX5_years 82 = .ok (.ldiv, 1) := by decide +kernel
theorem dX5_years_83 : decode cX5_years 83 = .ok (.ldc2_w 358, 3) := by decide +kernel
theorem dX5_years_86 : decode cX5_years 86 = .ok (.lrem, 1) := by decide +kernel
theorem dX5_years_87 : decode cX5_years 87 = .ok (.l2i, 1) := by decide +kernel
theorem dX5_years_88 : decode cX5_years 88 = .ok (.istore 7, 2) := by decide +kernel
theorem dX5_years_90 : decode cX5_years 90 = .ok (.aload_n 0, 1) := by decide +kernel
theorem dX5_years_91 : decode cX5_years 91 = .ok (.getfield 32, 3) := by decide +kernel
theorem dX5_years_94 : decode cX5_years 94 = .ok (.iload 6, 2) := by decide +kernel
theorem dX5_years_96 : decode cX5_years 96 = .ok (.invokevirtual 360, 3) := by decide +kernel
theorem dX5_years_99 : decode cX5_years 99 = .ok (.ifCond .eq 27, 3) := by decide +kernel
theorem dX5_years_102 : decode cX5_years 102 = .ok (.aload_n 0, 1) := by decide +kernel
theorem dX5_years_103 : decode cX5_years 103 = .ok (.getfield 32, 3) := by decide +kernel
theorem dX5_years_106 : decode cX5_years 106 = .ok (.iload 7, 2) := by decide +kernel
theorem dX5_years_108 : decode cX5_years 108 = .ok (.invokevirtual 200, 3) := by decide +kernel
theorem dX5_years_111 : decode cX5_years 111 = .ok (.ifCond .eq 15, 3) := by decide +kernel
theorem dX5_years_114 : decode cX5_years 114 = .ok (.aload_n 0, 1) := by decide +kernel
theorem dX5_years_115 : decode cX5_years 115 = .ok (.getfield 32, 3) := by decide +kernel
theorem dX5_years_118 : decode cX5_years 118 = .ok (.iload 6, 2) := by decide +kernel
theorem dX5_years_120 : decode cX5_years 120 = .ok (.iload 7, 2) := by decide +kernel
theorem dX5_years_122 : decode cX5_years 122 = .ok (.invokevirtual 206, 3) := by decide +kernel
theorem dX5_years_125 : decode cX5_years 125 = .ok (.pop, 1) := by decide +kernel
theorem dX5_years_126 : decode cX5_years 126 = .ok (.aload_n 0, 1) := by decide +kernel
theorem dX5_years_127 : decode cX5_years 127 = .ok (.getfield 32, 3) := by decide +kernel
theorem dX5_years_130 : decode cX5_years 130 = .ok (.iconst 1, 1) := by decide +kernel
theorem dX5_years_131 : decode cX5_years 131 = .ok (.invokevirtual 171, 3) := by decide +kernel
theorem dX5_years_134 : decode cX5_years 134 = .ok (.iinc 5 1, 3) := by decide +kernel
theorem dX5_years_137 : decode cX5_years 137 = .ok (.goto (-91), 3) := by decide +kernel
theorem dX5_years_140 : decode cX5_years 140 = .ok (.aload_n 0, 1) := by decide +kernel
theorem dX5_years_141 : decode cX5_years 141 = .ok (.getfield 32, 3) := by decide +kernel
theorem dX5_years_144 : decode cX5_years 144 = .ok (.getfield 363, 3) := by decide +kernel
theorem dX5_years_147 : decode cX5_years 147 = .ok (.ireturn, 1) := by decide +kernel
theorem dX5_part_0 : decode cX5_part 0 = .ok (.iload_n 1, 1) := by decide +kernel
theorem dX5_part_1 : decode cX5_part 1 = .ok (.lookupswitch 37 #[(0, 27), (1, 32)], 27) := by decide +kernel
theorem dX5_part_28 : decode cX5_part 28 = .ok (.aload_n 0, 1) := by decide +kernel
theorem dX5_part_29 : decode cX5_part 29 = .ok (.getfield 46, 3) := by decide +kernel
theorem dX5_part_32 : decode cX5_part 32 = .ok (.lreturn, 1) := by decide +kernel
theorem dX5_part_33 : decode cX5_part 33 = .ok (.aload_n 0, 1) := by decide +kernel
theorem dX5_part_34 : decode cX5_part 34 = .ok (.getfield 50, 3) := by decide +kernel
theorem dX5_part_37 : decode cX5_part 37 = .ok (.lreturn, 1) := by decide +kernel
theorem dX5_part_38 : decode cX5_part 38 = .ok (.aload_n 0, 1) := by decide +kernel
theorem dX5_part_39 : decode cX5_part 39 = .ok (.invokevirtual 102, 3) := by decide +kernel
theorem dX5_part_42 : decode cX5_part 42 = .ok (.i2l, 1) := by decide +kernel
theorem dX5_part_43 : decode cX5_part 43 = .ok (.lreturn, 1) := by decide +kernel
theorem dX5_image_0 : decode cX5_image 0 = .ok (.iload_n 1, 1) := by decide +kernel
theorem dX5_image_1 : decode cX5_image 1 = .ok (.iconst 0, 1) := by decide +kernel
theorem dX5_image_2 : decode cX5_image 2 = .ok (.iconst 1, 1) := by decide +kernel
theorem dX5_image_3 : decode cX5_image 3 = .ok (.invokestatic 98, 3) := by decide +kernel
theorem dX5_image_6 : decode cX5_image 6 = .ok (.ifCond .ne 8, 3) := by decide +kernel
theorem dX5_image_9 : decode cX5_image 9 = .ok (.aload_n 0, 1) := by decide +kernel
theorem dX5_image_10 : decode cX5_image 10 = .ok (.invokevirtual 102, 3) := by decide +kernel
theorem dX5_image_13 : decode cX5_image 13 = .ok (.ireturn, 1) := by decide +kernel
theorem dX5_image_14 : decode cX5_image 14 = .ok (.aload_n 0, 1) := by decide +kernel
theorem dX5_image_15 : decode cX5_image 15 = .ok (.iload_n 1, 1) := by decide +kernel
theorem dX5_image_16 : decode cX5_image 16 = .ok (.invokevirtual 366, 3) := by decide +kernel
theorem dX5_image_19 : decode cX5_image 19 = .ok (.astore_n 2, 1) := by decide +kernel
theorem dX5_image_20 : decode cX5_image 20 = .ok (.aload_n 2, 1) := by decide +kernel
theorem dX5_image_21 : decode cX5_image 21 = .ok (.aload_n 0, 1) := by decide +kernel
theorem dX5_image_22 : decode cX5_image 22 = .ok (.getfield 10, 3) := by decide +kernel
theorem dX5_image_25 : decode cX5_image 25 = .ok (.invokevirtual 370, 3) := by decide +kernel
theorem dX5_image_28 : decode cX5_image 28 = .ok (.aload_n 2, 1) := by decide +kernel
theorem dX5_image_29 : decode cX5_image 29 = .ok (.iconst 1, 1) := by decide +kernel
theorem dX5_image_30 : decode cX5_image 30 = .ok (.putfield 373, 3) := by decide +kernel
theorem dX5_image_33 : decode cX5_image 33 = .ok (.iconst 1, 1) := by decide +kernel
theorem dX5_image_34 : decode cX5_image 34 = .ok (.ireturn, 1) := by decide +kernel
theorem dX5_from_0 : decode cX5_from 0 = .ok (.iload_n 1, 1) := by decide +kernel
theorem dX5_from_1 : decode cX5_from 1 = .ok (.iconst 0, 1) := by decide +kernel
theorem dX5_from_2 : decode cX5_from 2 = .ok (.iconst 1, 1) := by decide +kernel
theorem dX5_from_3 : decode cX5_from 3 = .ok (.invokestatic 98, 3) := by decide +kernel
theorem dX5_from_6 : decode cX5_from 6 = .ok (.ifCond .ne 8, 3) := by decide +kernel
theorem dX5_from_9 : decode cX5_from 9 = .ok (.aload_n 0, 1) := by decide +kernel
theorem dX5_from_10 : decode cX5_from 10 = .ok (.invokevirtual 102, 3) := by decide +kernel
theorem dX5_from_13 : decode cX5_from 13 = .ok (.ireturn, 1) := by decide +kernel
theorem dX5_from_14 : decode cX5_from 14 = .ok (.aload_n 0, 1) := by decide +kernel
theorem dX5_from_15 : decode cX5_from 15 = .ok (.iload_n 1, 1) := by decide +kernel
theorem dX5_from_16 : decode cX5_from 16 = .ok (.invokevirtual 366, 3) := by decide +kernel
theorem dX5_from_19 : decode cX5_from 19 = .ok (.astore_n 2, 1) := by decide +kernel
theorem dX5_from_20 : decode cX5_from 20 = .ok (.aload_n 2, 1) := by decide +kernel
theorem dX5_from_21 : decode cX5_from 21 = .ok (.getfield 373, 3) := by decide +kernel
theorem dX5_from_24 : decode cX5_from 24 = .ok (.ifCond .ne 8, 3) := by decide +kernel
theorem dX5_from_27 : decode cX5_from 27 = .ok (.aload_n 0, 1) := by decide +kernel
theorem dX5_from_28 : decode cX5_from 28 = .ok (.invokevirtual 186, 3) := by decide +kernel
theorem dX5_from_31 : decode cX5_from 31 = .ok (.ireturn, 1) := by decide +kernel
theorem dX5_from_32 : decode cX5_from 32 = .ok (.aload_n 0, 1) := by decide +kernel
theorem dX5_from_33 : decode cX5_from 33 = .ok (.getfield 10, 3) := by decide +kernel
theorem dX5_from_36 : decode cX5_from 36 = .ok (.aload_n 2, 1) := by decide +kernel
theorem dX5_from_37 : decode cX5_from 37 = .ok (.invokevirtual 370, 3) := by decide +kernel
theorem dX5_from_40 : decode cX5_from 40 = .ok (.iconst 1, 1) := by decide +kernel
theorem dX5_from_41 : decode cX5_from 41 = .ok (.ireturn, 1) := by decide +kernel
theorem dX5_imageOf_0 : decode cX5_imageOf 0 = .ok (.iload_n 1, 1) := by decide +kernel
theorem dX5_imageOf_1 : decode cX5_imageOf 1 = .ok (.ifCond .ne 10, 3) := by decide +kernel
theorem dX5_imageOf_4 : decode cX5_imageOf 4 = .ok (.aload_n 0, 1) := by decide +kernel
theorem dX5_imageOf_5 : decode cX5_imageOf 5 = .ok (.getfield 16, 3) := by decide +kernel
theorem dX5_imageOf_8 : decode cX5_imageOf 8 = .ok (.goto 7, 3) := by decide +kernel
theorem dX5_imageOf_11 : decode cX5_imageOf 11 = .ok (.aload_n 0, 1) := by decide +kernel
theorem dX5_imageOf_12 : decode cX5_imageOf 12 = .ok (.getfield 19, 3) := by decide +kernel
theorem dX5_imageOf_15 : decode cX5_imageOf 15 = .ok (.areturn, 1) := by decide +kernel
theorem dX5_status_0 : decode cX5_status 0 = .ok (.iload_n 1, 1) := by decide +kernel
theorem dX5_status_1 : decode cX5_status 1 = .ok (.tableswitch 42 0 2 #[27, 32, 37], 27) := by decide +kernel
theorem dX5_status_28 : decode cX5_status 28 = .ok (.aload_n 0, 1) := by decide +kernel
theorem dX5_status_29 : decode cX5_status 29 = .ok (.getfield 53, 3) := by decide +kernel
theorem dX5_status_32 : decode cX5_status 32 = .ok (.ireturn, 1) := by decide +kernel
theorem dX5_status_33 : decode cX5_status 33 = .ok (.aload_n 0, 1) := by decide +kernel
theorem dX5_status_34 : decode cX5_status 34 = .ok (.getfield 57, 3) := by decide +kernel
theorem dX5_status_37 : decode cX5_status 37 = .ok (.ireturn, 1) := by decide +kernel
theorem dX5_status_38 : decode cX5_status 38 = .ok (.aload_n 0, 1) := by decide +kernel
theorem dX5_status_39 : decode cX5_status 39 = .ok (.getfield 60, 3) := by decide +kernel
theorem dX5_status_42 : decode cX5_status 42 = .ok (.ireturn, 1) := by decide +kernel
theorem dX5_status_43 : decode cX5_status 43 = .ok (.aload_n 0, 1) := by decide +kernel
theorem dX5_status_44 : decode cX5_status 44 = .ok (.iconst (-1), 1) := by decide +kernel
theorem dX5_status_45 : decode cX5_status 45 = .ok (.invokevirtual 73, 3) := by decide +kernel
theorem dX5_status_48 : decode cX5_status 48 = .ok (.ireturn, 1) := by decide +kernel
theorem dX5_count_0 : decode cX5_count 0 = .ok (.iload_n 1, 1) := by decide +kernel
theorem dX5_count_1 : decode cX5_count 1 = .ok (.iconst 0, 1) := by decide +kernel
theorem dX5_count_2 : decode cX5_count 2 = .ok (.bipush 11, 2) := by decide +kernel
theorem dX5_count_4 : decode cX5_count 4 = .ok (.invokestatic 98, 3) := by decide +kernel
theorem dX5_count_7 : decode cX5_count 7 = .ok (.ifCond .eq 11, 3) := by decide +kernel
theorem dX5_count_10 : decode cX5_count 10 = .ok (.aload_n 0, 1) := by decide +kernel
theorem dX5_count_11 : decode cX5_count 11 = .ok (.iload_n 1, 1) := by decide +kernel
theorem dX5_count_12 : decode cX5_count 12 = .ok (.invokevirtual 377, 3) := by decide +kernel
theorem dX5_count_15 : decode cX5_count 15 = .ok (.goto 7, 3) := by decide +kernel
theorem dX5_count_18 : decode cX5_count 18 = .ok (.aload_n 0, 1) := by decide +kernel
theorem dX5_count_19 : decode cX5_count 19 = .ok (.invokevirtual 102, 3) := by decide +kernel
theorem dX5_count_22 : decode cX5_count 22 = .ok (.ireturn, 1) := by decide +kernel
theorem dX5_countOf_0 : decode cX5_countOf 0 = .ok (.iload_n 1, 1) := by decide +kernel
theorem dX5_countOf_1 : decode cX5_countOf 1 = .ok (.tableswitch 184 0 10 #[59, 70, 81, 92, 103, 118, 129, 140, 151, 162, 173], 59) := by decide +kernel
theorem dX5_countOf_60 : decode cX5_countOf 60 = .ok (.aload_n 0, 1) := by decide +kernel
theorem dX5_countOf_61 : decode cX5_countOf 61 = .ok (.getfield 10, 3) := by decide +kernel
theorem dX5_countOf_64 : decode cX5_countOf 64 = .ok (.getfield 89, 3) := by decide +kernel
theorem dX5_countOf_67 : decode cX5_countOf 67 = .ok (.getfield 92, 3) := by decide +kernel
theorem dX5_countOf_70 : decode cX5_countOf 70 = .ok (.ireturn, 1) := by decide +kernel
theorem dX5_countOf_71 : decode cX5_countOf 71 = .ok (.aload_n 0, 1) := by decide +kernel
theorem dX5_countOf_72 : decode cX5_countOf 72 = .ok (.getfield 10, 3) := by decide +kernel
theorem dX5_countOf_75 : decode cX5_countOf 75 = .ok (.getfield 89, 3) := by decide +kernel
theorem dX5_countOf_78 : decode cX5_countOf 78 = .ok (.getfield 120, 3) := by decide +kernel
theorem dX5_countOf_81 : decode cX5_countOf 81 = .ok (.ireturn, 1) := by decide +kernel
theorem dX5_countOf_82 : decode cX5_countOf 82 = .ok (.aload_n 0, 1) := by decide +kernel
theorem dX5_countOf_83 : decode cX5_countOf 83 = .ok (.getfield 10, 3) := by decide +kernel
theorem dX5_countOf_86 : decode cX5_countOf 86 = .ok (.getfield 89, 3) := by decide +kernel
theorem dX5_countOf_89 : decode cX5_countOf 89 = .ok (.getfield 126, 3) := by decide +kernel
theorem dX5_countOf_92 : decode cX5_countOf 92 = .ok (.ireturn, 1) := by decide +kernel
theorem dX5_countOf_93 : decode cX5_countOf 93 = .ok (.aload_n 0, 1) := by decide +kernel
theorem dX5_countOf_94 : decode cX5_countOf 94 = .ok (.getfield 10, 3) := by decide +kernel
theorem dX5_countOf_97 : decode cX5_countOf 97 = .ok (.getfield 89, 3) := by decide +kernel
theorem dX5_countOf_100 : decode cX5_countOf 100 = .ok (.getfield 168, 3) := by decide +kernel
theorem dX5_countOf_103 : decode cX5_countOf 103 = .ok (.ireturn, 1) := by decide +kernel
theorem dX5_countOf_104 : decode cX5_countOf 104 = .ok (.aload_n 0, 1) := by decide +kernel
theorem dX5_countOf_105 : decode cX5_countOf 105 = .ok (.getfield 10, 3) := by decide +kernel
theorem dX5_countOf_108 : decode cX5_countOf 108 = .ok (.getfield 89, 3) := by decide +kernel
theorem dX5_countOf_111 : decode cX5_countOf 111 = .ok (.iconst 0, 1) := by decide +kernel
theorem dX5_countOf_112 : decode cX5_countOf 112 = .ok (.invokevirtual 236, 3) := by decide +kernel
theorem dX5_countOf_115 : decode cX5_countOf 115 = .ok (.invokestatic 380, 3) := by decide +kernel
theorem dX5_countOf_118 : decode cX5_countOf 118 = .ok (.ireturn, 1) := by decide +kernel
theorem dX5_countOf_119 : decode cX5_countOf 119 = .ok (.aload_n 0, 1) := by decide +kernel
theorem dX5_countOf_120 : decode cX5_countOf 120 = .ok (.getfield 10, 3) := by decide +kernel
theorem dX5_countOf_123 : decode cX5_countOf 123 = .ok (.getfield 89, 3) := by decide +kernel
theorem dX5_countOf_126 : decode cX5_countOf 126 = .ok (.invokevirtual 385, 3) := by decide +kernel
theorem dX5_countOf_129 : decode cX5_countOf 129 = .ok (.ireturn, 1) := by decide +kernel
theorem dX5_countOf_130 : decode cX5_countOf 130 = .ok (.aload_n 0, 1) := by decide +kernel
theorem dX5_countOf_131 : decode cX5_countOf 131 = .ok (.getfield 10, 3) := by decide +kernel
theorem dX5_countOf_134 : decode cX5_countOf 134 = .ok (.getfield 89, 3) := by decide +kernel
theorem dX5_countOf_137 : decode cX5_countOf 137 = .ok (.getfield 363, 3) := by decide +kernel
theorem dX5_countOf_140 : decode cX5_countOf 140 = .ok (.ireturn, 1) := by decide +kernel
theorem dX5_countOf_141 : decode cX5_countOf 141 = .ok (.aload_n 0, 1) := by decide +kernel
theorem dX5_countOf_142 : decode cX5_countOf 142 = .ok (.getfield 10, 3) := by decide +kernel
theorem dX5_countOf_145 : decode cX5_countOf 145 = .ok (.getfield 273, 3) := by decide +kernel
theorem dX5_countOf_148 : decode cX5_countOf 148 = .ok (.getfield 305, 3) := by decide +kernel
theorem dX5_countOf_151 : decode cX5_countOf 151 = .ok (.ireturn, 1) := by decide +kernel
theorem dX5_countOf_152 : decode cX5_countOf 152 = .ok (.aload_n 0, 1) := by decide +kernel
theorem dX5_countOf_153 : decode cX5_countOf 153 = .ok (.getfield 10, 3) := by decide +kernel
theorem dX5_countOf_156 : decode cX5_countOf 156 = .ok (.getfield 295, 3) := by decide +kernel
theorem dX5_countOf_159 : decode cX5_countOf 159 = .ok (.getfield 305, 3) := by decide +kernel
theorem dX5_countOf_162 : decode cX5_countOf 162 = .ok (.ireturn, 1) := by decide +kernel
theorem dX5_countOf_163 : decode cX5_countOf 163 = .ok (.aload_n 0, 1) := by decide +kernel
theorem dX5_countOf_164 : decode cX5_countOf 164 = .ok (.getfield 10, 3) := by decide +kernel
theorem dX5_countOf_167 : decode cX5_countOf 167 = .ok (.getfield 298, 3) := by decide +kernel
theorem dX5_countOf_170 : decode cX5_countOf 170 = .ok (.getfield 305, 3) := by decide +kernel
theorem dX5_countOf_173 : decode cX5_countOf 173 = .ok (.ireturn, 1) := by decide +kernel
theorem dX5_countOf_174 : decode cX5_countOf 174 = .ok (.aload_n 0, 1) := by decide +kernel
theorem dX5_countOf_175 : decode cX5_countOf 175 = .ok (.getfield 10, 3) := by decide +kernel
theorem dX5_countOf_178 : decode cX5_countOf 178 = .ok (.getfield 108, 3) := by decide +kernel
theorem dX5_countOf_181 : decode cX5_countOf 181 = .ok (.getfield 112, 3) := by decide +kernel
theorem dX5_countOf_184 : decode cX5_countOf 184 = .ok (.ireturn, 1) := by decide +kernel
theorem dX5_countOf_185 : decode cX5_countOf 185 = .ok (.aload_n 0, 1) := by decide +kernel
theorem dX5_countOf_186 : decode cX5_countOf 186 = .ok (.getfield 25, 3) := by decide +kernel
theorem dX5_countOf_189 : decode cX5_countOf 189 = .ok (.getfield 132, 3) := by decide +kernel
theorem dX5_countOf_192 : decode cX5_countOf 192 = .ok (.ireturn, 1) := by decide +kernel
theorem dX5_digest_0 : decode cX5_digest 0 = .ok (.ldc2_w 388, 3) := by decide +kernel
theorem dX5_digest_3 : decode cX5_digest 3 = .ok (.lstore_n 1, 1) := by decide +kernel
theorem dX5_digest_4 : decode cX5_digest 4 = .ok (.iconst 0, 1) := by decide +kernel
theorem dX5_digest_5 : decode cX5_digest 5 = .ok (.istore_n 3, 1) := by decide +kernel
theorem dX5_digest_6 : decode cX5_digest 6 = .ok (.iload_n 3, 1) := by decide +kernel
theorem dX5_digest_7 : decode cX5_digest 7 = .ok (.bipush 12, 2) := by decide +kernel
theorem dX5_digest_9 : decode cX5_digest 9 = .ok (.if_icmp .ge 22, 3) := by decide +kernel
theorem dX5_digest_12 : decode cX5_digest 12 = .ok (.ldc2_w 390, 3) := by decide +kernel
theorem dX5_digest_15 : decode cX5_digest 15 = .ok (.lload_n 1, 1) := by decide +kernel
theorem dX5_digest_16 : decode cX5_digest 16 = .ok (.lmul, 1) := by decide +kernel
theorem dX5_digest_17 : decode cX5_digest 17 = .ok (.aload_n 0, 1) := by decide +kernel
theorem dX5_digest_18 : decode cX5_digest 18 = .ok (.iload_n 3, 1) := by decide +kernel
theorem dX5_digest_19 : decode cX5_digest 19 = .ok (.invokevirtual 377, 3) := by decide +kernel
theorem dX5_digest_22 : decode cX5_digest 22 = .ok (.i2l, 1) := by decide +kernel
theorem dX5_digest_23 : decode cX5_digest 23 = .ok (.ladd, 1) := by decide +kernel
theorem dX5_digest_24 : decode cX5_digest 24 = .ok (.lstore_n 1, 1) := by decide +kernel
theorem dX5_digest_25 : decode cX5_digest 25 = .ok (.iinc 3 1, 3) := by decide +kernel
theorem dX5_digest_28 : decode cX5_digest 28 = .ok (.goto (-22), 3) := by decide +kernel
theorem dX5_digest_31 : decode cX5_digest 31 = .ok (.aload_n 0, 1) := by decide +kernel
theorem dX5_digest_32 : decode cX5_digest 32 = .ok (.getfield 10, 3) := by decide +kernel
theorem dX5_digest_35 : decode cX5_digest 35 = .ok (.getfield 89, 3) := by decide +kernel
theorem dX5_digest_38 : decode cX5_digest 38 = .ok (.lload_n 1, 1) := by decide +kernel
theorem dX5_digest_39 : decode cX5_digest 39 = .ok (.invokevirtual 392, 3) := by decide +kernel
theorem dX5_digest_42 : decode cX5_digest 42 = .ok (.lstore_n 1, 1) := by decide +kernel
theorem dX5_digest_43 : decode cX5_digest 43 = .ok (.aload_n 0, 1) := by decide +kernel
theorem dX5_digest_44 : decode cX5_digest 44 = .ok (.getfield 10, 3) := by decide +kernel
theorem dX5_digest_47 : decode cX5_digest 47 = .ok (.getfield 273, 3) := by decide +kernel
theorem dX5_digest_50 : decode cX5_digest 50 = .ok (.lload_n 1, 1) := by decide +kernel
theorem dX5_digest_51 : decode cX5_digest 51 = .ok (.iconst 2, 1) := by decide +kernel
theorem dX5_digest_52 : decode cX5_digest 52 = .ok (.invokevirtual 396, 3) := by decide +kernel
theorem dX5_digest_55 : decode cX5_digest 55 = .ok (.lstore_n 1, 1) := by decide +kernel
theorem dX5_digest_56 : decode cX5_digest 56 = .ok (.aload_n 0, 1) := by decide +kernel
theorem dX5_digest_57 : decode cX5_digest 57 = .ok (.getfield 10, 3) := by decide +kernel
theorem dX5_digest_60 : decode cX5_digest 60 = .ok (.getfield 295, 3) := by decide +kernel
theorem dX5_digest_63 : decode cX5_digest 63 = .ok (.lload_n 1, 1) := by decide +kernel
theorem dX5_digest_64 : decode cX5_digest 64 = .ok (.iconst 0, 1) := by decide +kernel
theorem dX5_digest_65 : decode cX5_digest 65 = .ok (.invokevirtual 396, 3) := by decide +kernel
theorem dX5_digest_68 : decode cX5_digest 68 = .ok (.lstore_n 1, 1) := by decide +kernel
theorem dX5_digest_69 : decode cX5_digest 69 = .ok (.aload_n 0, 1) := by decide +kernel
theorem dX5_digest_70 : decode cX5_digest 70 = .ok (.getfield 10, 3) := by decide +kernel
theorem dX5_digest_73 : decode cX5_digest 73 = .ok (.getfield 298, 3) := by decide +kernel
theorem dX5_digest_76 : decode cX5_digest 76 = .ok (.lload_n 1, 1) := by decide +kernel
theorem dX5_digest_77 : decode cX5_digest 77 = .ok (.iconst 0, 1) := by decide +kernel
theorem dX5_digest_78 : decode cX5_digest 78 = .ok (.invokevirtual 396, 3) := by decide +kernel
theorem dX5_digest_81 : decode cX5_digest 81 = .ok (.lstore_n 1, 1) := by decide +kernel
theorem dX5_digest_82 : decode cX5_digest 82 = .ok (.ldc2_w 390, 3) := by decide +kernel
theorem dX5_digest_85 : decode cX5_digest 85 = .ok (.lload_n 1, 1) := by decide +kernel
theorem dX5_digest_86 : decode cX5_digest 86 = .ok (.lmul, 1) := by decide +kernel
theorem dX5_digest_87 : decode cX5_digest 87 = .ok (.aload_n 0, 1) := by decide +kernel
theorem dX5_digest_88 : decode cX5_digest 88 = .ok (.getfield 46, 3) := by decide +kernel
theorem dX5_digest_91 : decode cX5_digest 91 = .ok (.ladd, 1) := by decide +kernel
theorem dX5_digest_92 : decode cX5_digest 92 = .ok (.lstore_n 1, 1) := by decide +kernel
theorem dX5_digest_93 : decode cX5_digest 93 = .ok (.ldc2_w 390, 3) := by decide +kernel
theorem dX5_digest_96 : decode cX5_digest 96 = .ok (.lload_n 1, 1) := by decide +kernel
theorem dX5_digest_97 : decode cX5_digest 97 = .ok (.lmul, 1) := by decide +kernel
theorem dX5_digest_98 : decode cX5_digest 98 = .ok (.aload_n 0, 1) := by decide +kernel
theorem dX5_digest_99 : decode cX5_digest 99 = .ok (.getfield 50, 3) := by decide +kernel
theorem dX5_digest_102 : decode cX5_digest 102 = .ok (.ladd, 1) := by decide +kernel
theorem dX5_digest_103 : decode cX5_digest 103 = .ok (.lreturn, 1) := by decide +kernel
end
section
theorem dX6_init_0 : decode cX6_init 0 = .ok (.aload_n 0, 1) := by decide +kernel
theorem dX6_init_1 : decode cX6_init 1 = .ok (.invokespecial 1, 3) := by decide +kernel
theorem dX6_init_4 : decode cX6_init 4 = .ok (.aload_n 0, 1) := by decide +kernel
theorem dX6_init_5 : decode cX6_init 5 = .ok (.sipush 258, 3) := by decide +kernel
theorem dX6_init_8 : decode cX6_init 8 = .ok (.newarray .int, 2) := by decide +kernel
theorem dX6_init_10 : decode cX6_init 10 = .ok (.putfield 7, 3) := by decide +kernel
theorem dX6_init_13 : decode cX6_init 13 = .ok (.aload_n 0, 1) := by decide +kernel
theorem dX6_init_14 : decode cX6_init 14 = .ok (.sipush 516, 3) := by decide +kernel
theorem dX6_init_17 : decode cX6_init 17 = .ok (.newarray .int, 2) := by decide +kernel
theorem dX6_init_19 : decode cX6_init 19 = .ok (.putfield 13, 3) := by decide +kernel
theorem dX6_init_22 : decode cX6_init 22 = .ok (.aload_n 0, 1) := by decide +kernel
theorem dX6_init_23 : decode cX6_init 23 = .ok (.iconst 2, 1) := by decide +kernel
theorem dX6_init_24 : decode cX6_init 24 = .ok (.newarray .boolean, 2) := by decide +kernel
theorem dX6_init_26 : decode cX6_init 26 = .ok (.putfield 16, 3) := by decide +kernel
theorem dX6_init_29 : decode cX6_init 29 = .ok (.aload_n 0, 1) := by decide +kernel
theorem dX6_init_30 : decode cX6_init 30 = .ok (.iconst 3, 1) := by decide +kernel
theorem dX6_init_31 : decode cX6_init 31 = .ok (.newarray .int, 2) := by decide +kernel
theorem dX6_init_33 : decode cX6_init 33 = .ok (.putfield 20, 3) := by decide +kernel
theorem dX6_init_36 : decode cX6_init 36 = .ok (.aload_n 0, 1) := by decide +kernel
theorem dX6_init_37 : decode cX6_init 37 = .ok (.lconst 1, 1) := by decide +kernel
theorem dX6_init_38 : decode cX6_init 38 = .ok (.putfield 23, 3) := by decide +kernel
theorem dX6_init_41 : decode cX6_init 41 = .ok (.aload_n 0, 1) := by decide +kernel
theorem dX6_init_42 : decode cX6_init 42 = .ok (.iconst 4, 1) := by decide +kernel
theorem dX6_init_43 : decode cX6_init 43 = .ok (.newarray .int, 2) := by decide +kernel
theorem dX6_init_45 : decode cX6_init 45 = .ok (.putfield 27, 3) := by decide +kernel
theorem dX6_init_48 : decode cX6_init 48 = .ok (.aload_n 0, 1) := by decide +kernel
theorem dX6_init_49 : decode cX6_init 49 = .ok (.iconst 4, 1) := by decide +kernel
theorem dX6_init_50 : decode cX6_init 50 = .ok (.newarray .int, 2) := by decide +kernel
theorem dX6_init_52 : decode cX6_init 52 = .ok (.putfield 30, 3) := by decide +kernel
theorem dX6_init_55 : decode cX6_init 55 = .ok (.aload_n 0, 1) := by decide +kernel
theorem dX6_init_56 : decode cX6_init 56 = .ok (.bipush 7, 2) := by decide +kernel
theorem dX6_init_58 : decode cX6_init 58 = .ok (.newarray .int, 2) := by decide +kernel
theorem dX6_init_60 : decode cX6_init 60 = .ok (.putfield 33, 3) := by decide +kernel
theorem dX6_init_63 : decode cX6_init 63 = .ok (.aload_n 0, 1) := by decide +kernel
theorem dX6_init_64 : decode cX6_init 64 = .ok (.bipush 48, 2) := by decide +kernel
theorem dX6_init_66 : decode cX6_init 66 = .ok (.newarray .int, 2) := by decide +kernel
theorem dX6_init_68 : decode cX6_init 68 = .ok (.putfield 36, 3) := by decide +kernel
theorem dX6_init_71 : decode cX6_init 71 = .ok (.aload_n 0, 1) := by decide +kernel
theorem dX6_init_72 : decode cX6_init 72 = .ok (.sipush 150, 3) := by decide +kernel
theorem dX6_init_75 : decode cX6_init 75 = .ok (.newarray .int, 2) := by decide +kernel
theorem dX6_init_77 : decode cX6_init 77 = .ok (.putfield 39, 3) := by decide +kernel
theorem dX6_init_80 : decode cX6_init 80 = .ok (.aload_n 0, 1) := by decide +kernel
theorem dX6_init_81 : decode cX6_init 81 = .ok (.bipush 106, 2) := by decide +kernel
theorem dX6_init_83 : decode cX6_init 83 = .ok (.newarray .int, 2) := by decide +kernel
theorem dX6_init_85 : decode cX6_init 85 = .ok (.putfield 42, 3) := by decide +kernel
theorem dX6_init_88 : decode cX6_init 88 = .ok (.aload_n 0, 1) := by decide +kernel
theorem dX6_init_89 : decode cX6_init 89 = .ok (.iconst 2, 1) := by decide +kernel
theorem dX6_init_90 : decode cX6_init 90 = .ok (.newarray .int, 2) := by decide +kernel
theorem dX6_init_92 : decode cX6_init 92 = .ok (.putfield 45, 3) := by decide +kernel
theorem dX6_init_95 : decode cX6_init 95 = .ok (.aload_n 0, 1) := by decide +kernel
theorem dX6_init_96 : decode cX6_init 96 = .ok (.getfield 7, 3) := by decide +kernel
theorem dX6_init_99 : decode cX6_init 99 = .ok (.invokestatic 48, 3) := by decide +kernel
theorem dX6_init_102 : decode cX6_init 102 = .ok (.return_, 1) := by decide +kernel
theorem dX6_in_0 : decode cX6_in 0 = .ok (.lload_n 0, 1) := by decide +kernel
theorem dX6_in_1 : decode cX6_in 1 = .ok (.lload_n 2, 1) := by decide +kernel
theorem dX6_in_2 : decode cX6_in 2 = .ok (.lcmp, 1) := by decide +kernel
theorem dX6_in_3 : decode cX6_in 3 = .ok (.ifCond .lt 14, 3) := by decide +kernel
theorem dX6_in_6 : decode cX6_in 6 = .ok (.lload_n 0, 1) := by decide +kernel
theorem dX6_in_7 : decode cX6_in 7 = .ok (.lload 4, 2) := by decide +kernel
theorem dX6_in_9 : decode cX6_in 9 = .ok (.lcmp, 1) := by decide +kernel
theorem dX6_in_10 : decode cX6_in 10 = .ok (.ifCond .gt 7, 3) := by decide +kernel
theorem dX6_in_13 : decode cX6_in 13 = .ok (.iconst 1, 1) := by decide +kernel
theorem dX6_in_14 : decode cX6_in 14 = .ok (.goto 4, 3) := by decide +kernel
theorem dX6_in_17 : decode cX6_in 17 = .ok (.iconst 0, 1) := by decide +kernel
theorem dX6_in_18 : decode cX6_in 18 = .ok (.ireturn, 1) := by decide +kernel
theorem dX6_bad_0 : decode cX6_bad 0 = .ok (.aload_n 0, 1) := by decide +kernel
theorem dX6_bad_1 : decode cX6_bad 1 = .ok (.getfield 20, 3) := by decide +kernel
theorem dX6_bad_4 : decode cX6_bad 4 = .ok (.iconst 0, 1) := by decide +kernel
theorem dX6_bad_5 : decode cX6_bad 5 = .ok (.dup2, 1) := by decide +kernel
theorem dX6_bad_6 : decode cX6_bad 6 = .ok (.iaload, 1) := by decide +kernel
theorem dX6_bad_7 : decode cX6_bad 7 = .ok (.iconst 1, 1) := by decide +kernel
theorem dX6_bad_8 : decode cX6_bad 8 = .ok (.iadd, 1) := by decide +kernel
theorem dX6_bad_9 : decode cX6_bad 9 = .ok (.iastore, 1) := by decide +kernel
theorem dX6_bad_10 : decode cX6_bad 10 = .ok (.iload_n 1, 1) := by decide +kernel
theorem dX6_bad_11 : decode cX6_bad 11 = .ok (.ireturn, 1) := by decide +kernel
theorem dX6_no_0 : decode cX6_no 0 = .ok (.aload_n 0, 1) := by decide +kernel
theorem dX6_no_1 : decode cX6_no 1 = .ok (.getfield 20, 3) := by decide +kernel
theorem dX6_no_4 : decode cX6_no 4 = .ok (.iconst 1, 1) := by decide +kernel
theorem dX6_no_5 : decode cX6_no 5 = .ok (.dup2, 1) := by decide +kernel
theorem dX6_no_6 : decode cX6_no 6 = .ok (.iaload, 1) := by decide +kernel
theorem dX6_no_7 : decode cX6_no 7 = .ok (.iconst 1, 1) := by decide +kernel
theorem dX6_no_8 : decode cX6_no 8 = .ok (.iadd, 1) := by decide +kernel
theorem dX6_no_9 : decode cX6_no 9 = .ok (.iastore, 1) := by decide +kernel
theorem dX6_no_10 : decode cX6_no 10 = .ok (.bipush (-3), 2) := by decide +kernel
theorem dX6_no_12 : decode cX6_no 12 = .ok (.ireturn, 1) := by decide +kernel
theorem dX6_full_0 : decode cX6_full 0 = .ok (.aload_n 0, 1) := by decide +kernel
theorem dX6_full_1 : decode cX6_full 1 = .ok (.getfield 20, 3) := by decide +kernel
theorem dX6_full_4 : decode cX6_full 4 = .ok (.iconst 2, 1) := by decide +kernel
theorem dX6_full_5 : decode cX6_full 5 = .ok (.dup2, 1) := by decide +kernel
theorem dX6_full_6 : decode cX6_full 6 = .ok (.iaload, 1) := by decide +kernel
theorem dX6_full_7 : decode cX6_full 7 = .ok (.iconst 1, 1) := by decide +kernel
theorem dX6_full_8 : decode cX6_full 8 = .ok (.iadd, 1) := by decide +kernel
theorem dX6_full_9 : decode cX6_full 9 = .ok (.iastore, 1) := by decide +kernel
theorem dX6_full_10 : decode cX6_full 10 = .ok (.bipush (-4), 2) := by decide +kernel
theorem dX6_full_12 : decode cX6_full 12 = .ok (.ireturn, 1) := by decide +kernel
theorem dX6_has_0 : decode cX6_has 0 = .ok (.iload_n 0, 1) := by decide +kernel
theorem dX6_has_1 : decode cX6_has 1 = .ok (.iload_n 1, 1) := by decide +kernel
theorem dX6_has_2 : decode cX6_has 2 = .ok (.ishr, 1) := by decide +kernel
theorem dX6_has_3 : decode cX6_has 3 = .ok (.iconst 1, 1) := by decide +kernel
theorem dX6_has_4 : decode cX6_has 4 = .ok (.iand, 1) := by decide +kernel
theorem dX6_has_5 : decode cX6_has 5 = .ok (.iconst 1, 1) := by decide +kernel
theorem dX6_has_6 : decode cX6_has 6 = .ok (.if_icmp .ne 7, 3) := by decide +kernel
theorem dX6_has_9 : decode cX6_has 9 = .ok (.iconst 1, 1) := by decide +kernel
theorem dX6_has_10 : decode cX6_has 10 = .ok (.goto 4, 3) := by decide +kernel
theorem dX6_has_13 : decode cX6_has 13 = .ok (.iconst 0, 1) := by decide +kernel
theorem dX6_has_14 : decode cX6_has 14 = .ok (.ireturn, 1) := by decide +kernel
theorem dX6_begin_0 : decode cX6_begin 0 = .ok (.iconst 0, 1) := by decide +kernel
theorem dX6_begin_1 : decode cX6_begin 1 = .ok (.istore_n 1, 1) := by decide +kernel
theorem dX6_begin_2 : decode cX6_begin 2 = .ok (.iload_n 1, 1) := by decide +kernel
theorem dX6_begin_3 : decode cX6_begin 3 = .ok (.bipush 106, 2) := by decide +kernel
theorem dX6_begin_5 : decode cX6_begin 5 = .ok (.if_icmp .ge 13, 3) := by decide +kernel
theorem dX6_begin_8 : decode cX6_begin 8 = .ok (.aload_n 0, 1) := by decide +kernel
theorem dX6_begin_9 : decode cX6_begin 9 = .ok (.iload_n 1, 1) := by decide +kernel
theorem dX6_begin_10 : decode cX6_begin 10 = .ok (.iconst 0, 1) := by decide +kernel
theorem dX6_begin_11 : decode cX6_begin 11 = .ok (.iastore, 1) := by decide +kernel
theorem dX6_begin_12 : decode cX6_begin 12 = .ok (.iinc 1 1, 3) := by decide +kernel
theorem dX6_begin_15 : decode cX6_begin 15 = .ok (.goto (-13), 3) := by decide +kernel
theorem dX6_begin_18 : decode cX6_begin 18 = .ok (.return_, 1) := by decide +kernel
theorem dX6_many_0 : decode cX6_many 0 = .ok (.aload_n 0, 1) := by decide +kernel
theorem dX6_many_1 : decode cX6_many 1 = .ok (.getfield 7, 3) := by decide +kernel
theorem dX6_many_4 : decode cX6_many 4 = .ok (.iconst 0, 1) := by decide +kernel
theorem dX6_many_5 : decode cX6_many 5 = .ok (.iaload, 1) := by decide +kernel
theorem dX6_many_6 : decode cX6_many 6 = .ok (.ireturn, 1) := by decide +kernel
theorem dX6_isPromise_0 : decode cX6_isPromise 0 = .ok (.iload_n 1, 1) := by decide +kernel
theorem dX6_isPromise_1 : decode cX6_isPromise 1 = .ok (.i2l, 1) := by decide +kernel
theorem dX6_isPromise_2 : decode cX6_isPromise 2 = .ok (.lconst 0, 1) := by decide +kernel
theorem dX6_isPromise_3 : decode cX6_isPromise 3 = .ok (.aload_n 0, 1) := by decide +kernel
theorem dX6_isPromise_4 : decode cX6_isPromise 4 = .ok (.invokevirtual 52, 3) := by decide +kernel
theorem dX6_isPromise_7 : decode cX6_isPromise 7 = .ok (.iconst 1, 1) := by decide +kernel
theorem dX6_isPromise_8 : decode cX6_isPromise 8 = .ok (.isub, 1) := by decide +kernel
theorem dX6_isPromise_9 : decode cX6_isPromise 9 = .ok (.i2l, 1) := by decide +kernel
theorem dX6_isPromise_10 : decode cX6_isPromise 10 = .ok (.invokestatic 56, 3) := by decide +kernel
theorem dX6_isPromise_13 : decode cX6_isPromise 13 = .ok (.ireturn, 1) := by decide +kernel
theorem dX6_isHearer_0 : decode cX6_isHearer 0 = .ok (.iload_n 1, 1) := by decide +kernel
theorem dX6_isHearer_1 : decode cX6_isHearer 1 = .ok (.i2l, 1) := by decide +kernel
theorem dX6_isHearer_2 : decode cX6_isHearer 2 = .ok (.lconst 0, 1) := by decide +kernel
theorem dX6_isHearer_3 : decode cX6_isHearer 3 = .ok (.aload_n 0, 1) := by decide +kernel
theorem dX6_isHearer_4 : decode cX6_isHearer 4 = .ok (.getfield 7, 3) := by decide +kernel
theorem dX6_isHearer_7 : decode cX6_isHearer 7 = .ok (.iconst 1, 1) := by decide +kernel
theorem dX6_isHearer_8 : decode cX6_isHearer 8 = .ok (.iaload, 1) := by decide +kernel
theorem dX6_isHearer_9 : decode cX6_isHearer 9 = .ok (.iconst 1, 1) := by decide +kernel
theorem dX6_isHearer_10 : decode cX6_isHearer 10 = .ok (.isub, 1) := by decide +kernel
theorem dX6_isHearer_11 : decode cX6_isHearer 11 = .ok (.i2l, 1) := by decide +kernel
theorem dX6_isHearer_12 : decode cX6_isHearer 12 = .ok (.invokestatic 56, 3) := by decide +kernel
theorem dX6_isHearer_15 : decode cX6_isHearer 15 = .ok (.ireturn, 1) := by decide +kernel
theorem dX6_isBuyer_0 : decode cX6_isBuyer 0 = .ok (.iload_n 1, 1) := by decide +kernel
theorem dX6_isBuyer_1 : decode cX6_isBuyer 1 = .ok (.i2l, 1) := by decide +kernel
theorem dX6_isBuyer_2 : decode cX6_isBuyer 2 = .ok (.lconst 0, 1) := by decide +kernel
theorem dX6_isBuyer_3 : decode cX6_isBuyer 3 = .ok (.aload_n 0, 1) := by decide +kernel
theorem dX6_isBuyer_4 : decode cX6_isBuyer 4 = .ok (.getfield 7, 3) := by decide +kernel
theorem dX6_isBuyer_7 : decode cX6_isBuyer 7 = .ok (.iconst 2, 1) := by decide +kernel
theorem dX6_isBuyer_8 : decode cX6_isBuyer 8 = .ok (.iaload, 1) := by decide +kernel
theorem dX6_isBuyer_9 : decode cX6_isBuyer 9 = .ok (.iconst 1, 1) := by decide +kernel
theorem dX6_isBuyer_10 : decode cX6_isBuyer 10 = .ok (.isub, 1) := by decide +kernel
theorem dX6_isBuyer_11 : decode cX6_isBuyer 11 = .ok (.i2l, 1) := by decide +kernel
theorem dX6_isBuyer_12 : decode cX6_isBuyer 12 = .ok (.invokestatic 56, 3) := by decide +kernel
theorem dX6_isBuyer_15 : decode cX6_isBuyer 15 = .ok (.ireturn, 1) := by decide +kernel
theorem dX6_isKind_0 : decode cX6_isKind 0 = .ok (.iload_n 0, 1) := by decide +kernel
theorem dX6_isKind_1 : decode cX6_isKind 1 = .ok (.i2l, 1) := by decide +kernel
theorem dX6_isKind_2 : decode cX6_isKind 2 = .ok (.lconst 0, 1) := by decide +kernel
theorem dX6_isKind_3 : decode cX6_isKind 3 = .ok (.ldc2_w 60, 3) := by decide +kernel
theorem dX6_isKind_6 : decode cX6_isKind 6 = .ok (.invokestatic 56, 3) := by decide +kernel
theorem dX6_isKind_9 : decode cX6_isKind 9 = .ok (.ireturn, 1) := by decide +kernel
theorem dX6_isNine_0 : decode cX6_isNine 0 = .ok (.iload_n 0, 1) := by decide +kernel
theorem dX6_isNine_1 : decode cX6_isNine 1 = .ok (.i2l, 1) := by decide +kernel
theorem dX6_isNine_2 : decode cX6_isNine 2 = .ok (.lconst 1, 1) := by decide +kernel
theorem dX6_isNine_3 : decode cX6_isNine 3 = .ok (.ldc2_w 62, 3) := by decide +kernel
theorem dX6_isNine_6 : decode cX6_isNine 6 = .ok (.invokestatic 56, 3) := by decide +kernel
theorem dX6_isNine_9 : decode cX6_isNine 9 = .ok (.ireturn, 1) := by decide +kernel
theorem dX6_town_0 : decode cX6_town 0 = .ok (.aload_n 0, 1) := by decide +kernel
theorem dX6_town_1 : decode cX6_town 1 = .ok (.invokevirtual 52, 3) := by decide +kernel
theorem dX6_town_4 : decode cX6_town 4 = .ok (.istore_n 1, 1) := by decide +kernel
theorem dX6_town_5 : decode cX6_town 5 = .ok (.aload_n 0, 1) := by decide +kernel
theorem dX6_town_6 : decode cX6_town 6 = .ok (.getfield 7, 3) := by decide +kernel
theorem dX6_town_9 : decode cX6_town 9 = .ok (.invokestatic 48, 3) := by decide +kernel
theorem dX6_town_12 : decode cX6_town 12 = .ok (.iload_n 1, 1) := by decide +kernel
theorem dX6_town_13 : decode cX6_town 13 = .ok (.ireturn, 1) := by decide +kernel
theorem dX6_layPromise_0 : decode cX6_layPromise 0 = .ok (.aload_n 0, 1) := by decide +kernel
theorem dX6_layPromise_1 : decode cX6_layPromise 1 = .ok (.iconst 0, 1) := by decide +kernel
theorem dX6_layPromise_2 : decode cX6_layPromise 2 = .ok (.iaload, 1) := by decide +kernel
theorem dX6_layPromise_3 : decode cX6_layPromise 3 = .ok (.istore_n 3, 1) := by decide +kernel
theorem dX6_layPromise_4 : decode cX6_layPromise 4 = .ok (.aload_n 0, 1) := by decide +kernel
theorem dX6_layPromise_5 : decode cX6_layPromise 5 = .ok (.bipush 26, 2) := by decide +kernel
theorem dX6_layPromise_7 : decode cX6_layPromise 7 = .ok (.iload_n 3, 1) := by decide +kernel
theorem dX6_layPromise_8 : decode cX6_layPromise 8 = .ok (.iadd, 1) := by decide +kernel
theorem dX6_layPromise_9 : decode cX6_layPromise 9 = .ok (.iload_n 1, 1) := by decide +kernel
theorem dX6_layPromise_10 : decode cX6_layPromise 10 = .ok (.iastore, 1) := by decide +kernel
theorem dX6_layPromise_11 : decode cX6_layPromise 11 = .ok (.aload_n 0, 1) := by decide +kernel
theorem dX6_layPromise_12 : decode cX6_layPromise 12 = .ok (.bipush 33, 2) := by decide +kernel
theorem dX6_layPromise_14 : decode cX6_layPromise 14 = .ok (.iload_n 3, 1) := by decide +kernel
theorem dX6_layPromise_15 : decode cX6_layPromise 15 = .ok (.iadd, 1) := by decide +kernel
theorem dX6_layPromise_16 : decode cX6_layPromise 16 = .ok (.iload_n 2, 1) := by decide +kernel
theorem dX6_layPromise_17 : decode cX6_layPromise 17 = .ok (.iastore, 1) := by decide +kernel
theorem dX6_layPromise_18 : decode cX6_layPromise 18 = .ok (.aload_n 0, 1) := by decide +kernel
theorem dX6_layPromise_19 : decode cX6_layPromise 19 = .ok (.bipush 7, 2) := by decide +kernel
theorem dX6_layPromise_21 : decode cX6_layPromise 21 = .ok (.iload_n 3, 1) := by decide +kernel
theorem dX6_layPromise_22 : decode cX6_layPromise 22 = .ok (.iadd, 1) := by decide +kernel
theorem dX6_layPromise_23 : decode cX6_layPromise 23 = .ok (.iconst 0, 1) := by decide +kernel
theorem dX6_layPromise_24 : decode cX6_layPromise 24 = .ok (.iastore, 1) := by decide +kernel
theorem dX6_layPromise_25 : decode cX6_layPromise 25 = .ok (.aload_n 0, 1) := by decide +kernel
theorem dX6_layPromise_26 : decode cX6_layPromise 26 = .ok (.bipush 14, 2) := by decide +kernel
theorem dX6_layPromise_28 : decode cX6_layPromise 28 = .ok (.iload_n 3, 1) := by decide +kernel
theorem dX6_layPromise_29 : decode cX6_layPromise 29 = .ok (.iadd, 1) := by decide +kernel
theorem dX6_layPromise_30 : decode cX6_layPromise 30 = .ok (.iconst 0, 1) := by decide +kernel
theorem dX6_layPromise_31 : decode cX6_layPromise 31 = .ok (.iastore, 1) := by decide +kernel
theorem dX6_layPromise_32 : decode cX6_layPromise 32 = .ok (.aload_n 0, 1) := by decide +kernel
theorem dX6_layPromise_33 : decode cX6_layPromise 33 = .ok (.iconst 0, 1) := by decide +kernel
theorem dX6_layPromise_34 : decode cX6_layPromise 34 = .ok (.dup2, 1) := by decide +kernel
theorem dX6_layPromise_35 : decode cX6_layPromise 35 = .ok (.iaload, 1) := by decide +kernel
theorem dX6_layPromise_36 : decode cX6_layPromise 36 = .ok (.iconst 1, 1) := by decide +kernel
theorem dX6_layPromise_37 : decode cX6_layPromise 37 = .ok (.iadd, 1) := by decide +kernel
theorem dX6_layPromise_38 : decode cX6_layPromise 38 = .ok (.iastore, 1) := by decide +kernel
theorem dX6_layPromise_39 : decode cX6_layPromise 39 = .ok (.return_, 1) := by decide +kernel
theorem dX6_promise_0 : decode cX6_promise 0 = .ok (.iload_n 1, 1) := by decide +kernel
theorem dX6_promise_1 : decode cX6_promise 1 = .ok (.invokestatic 64, 3) := by decide +kernel
theorem dX6_promise_4 : decode cX6_promise 4 = .ok (.ifCond .eq 10, 3) := by decide +kernel
theorem dX6_promise_7 : decode cX6_promise 7 = .ok (.iload_n 2, 1) := by decide +kernel
theorem dX6_promise_8 : decode cX6_promise 8 = .ok (.invokestatic 68, 3) := by decide +kernel
theorem dX6_promise_11 : decode cX6_promise 11 = .ok (.ifCond .ne 10, 3) := by decide +kernel
theorem dX6_promise_14 : decode cX6_promise 14 = .ok (.aload_n 0, 1) := by decide +kernel
theorem dX6_promise_15 : decode cX6_promise 15 = .ok (.bipush (-2), 2) := by decide +kernel
theorem dX6_promise_17 : decode cX6_promise 17 = .ok (.invokevirtual 71, 3) := by decide +kernel
theorem dX6_promise_20 : decode cX6_promise 20 = .ok (.ireturn, 1) := by decide +kernel
theorem dX6_promise_21 : decode cX6_promise 21 = .ok (.aload_n 0, 1) := by decide +kernel
theorem dX6_promise_22 : decode cX6_promise 22 = .ok (.invokevirtual 52, 3) := by decide +kernel
theorem dX6_promise_25 : decode cX6_promise 25 = .ok (.bipush 7, 2) := by decide +kernel
theorem dX6_promise_27 : decode cX6_promise 27 = .ok (.if_icmp .ne 8, 3) := by decide +kernel
theorem dX6_promise_30 : decode cX6_promise 30 = .ok (.aload_n 0, 1) := by decide +kernel
theorem dX6_promise_31 : decode cX6_promise 31 = .ok (.invokevirtual 75, 3) := by decide +kernel
theorem dX6_promise_34 : decode cX6_promise 34 = .ok (.ireturn, 1) := by decide +kernel
theorem dX6_promise_35 : decode cX6_promise 35 = .ok (.aload_n 0, 1) := by decide +kernel
theorem dX6_promise_36 : decode cX6_promise 36 = .ok (.getfield 7, 3) := by decide +kernel
theorem dX6_promise_39 : decode cX6_promise 39 = .ok (.iload_n 1, 1) := by decide +kernel
theorem dX6_promise_40 : decode cX6_promise 40 = .ok (.iload_n 2, 1) := by decide +kernel
theorem dX6_promise_41 : decode cX6_promise 41 = .ok (.invokestatic 78, 3) := by decide +kernel
theorem dX6_promise_44 : decode cX6_promise 44 = .ok (.aload_n 0, 1) := by decide +kernel
theorem dX6_promise_45 : decode cX6_promise 45 = .ok (.getfield 7, 3) := by decide +kernel
theorem dX6_promise_48 : decode cX6_promise 48 = .ok (.bipush 6, 2) := by decide +kernel
theorem dX6_promise_50 : decode cX6_promise 50 = .ok (.iconst 0, 1) := by decide +kernel
theorem dX6_promise_51 : decode cX6_promise 51 = .ok (.iastore, 1) := by decide +kernel
theorem dX6_promise_52 : decode cX6_promise 52 = .ok (.aload_n 0, 1) := by decide +kernel
theorem dX6_promise_53 : decode cX6_promise 53 = .ok (.invokevirtual 52, 3) := by decide +kernel
theorem dX6_promise_56 : decode cX6_promise 56 = .ok (.iconst 1, 1) := by decide +kernel
theorem dX6_promise_57 : decode cX6_promise 57 = .ok (.isub, 1) := by decide +kernel
theorem dX6_promise_58 : decode cX6_promise 58 = .ok (.ireturn, 1) := by decide +kernel
theorem dX6_hearer_0 : decode cX6_hearer 0 = .ok (.iload_n 1, 1) := by decide +kernel
theorem dX6_hearer_1 : decode cX6_hearer 1 = .ok (.invokestatic 64, 3) := by decide +kernel
theorem dX6_hearer_4 : decode cX6_hearer 4 = .ok (.ifCond .eq 10, 3) := by decide +kernel
theorem dX6_hearer_7 : decode cX6_hearer 7 = .ok (.iload_n 2, 1) := by decide +kernel
theorem dX6_hearer_8 : decode cX6_hearer 8 = .ok (.invokestatic 68, 3) := by decide +kernel
theorem dX6_hearer_11 : decode cX6_hearer 11 = .ok (.ifCond .ne 10, 3) := by decide +kernel
theorem dX6_hearer_14 : decode cX6_hearer 14 = .ok (.aload_n 0, 1) := by decide +kernel
theorem dX6_hearer_15 : decode cX6_hearer 15 = .ok (.bipush (-2), 2) := by decide +kernel
theorem dX6_hearer_17 : decode cX6_hearer 17 = .ok (.invokevirtual 71, 3) := by decide +kernel
theorem dX6_hearer_20 : decode cX6_hearer 20 = .ok (.ireturn, 1) := by decide +kernel
theorem dX6_hearer_21 : decode cX6_hearer 21 = .ok (.aload_n 0, 1) := by decide +kernel
theorem dX6_hearer_22 : decode cX6_hearer 22 = .ok (.getfield 7, 3) := by decide +kernel
theorem dX6_hearer_25 : decode cX6_hearer 25 = .ok (.iconst 1, 1) := by decide +kernel
theorem dX6_hearer_26 : decode cX6_hearer 26 = .ok (.iaload, 1) := by decide +kernel
theorem dX6_hearer_27 : decode cX6_hearer 27 = .ok (.iconst 4, 1) := by decide +kernel
theorem dX6_hearer_28 : decode cX6_hearer 28 = .ok (.if_icmp .ne 8, 3) := by decide +kernel
theorem dX6_hearer_31 : decode cX6_hearer 31 = .ok (.aload_n 0, 1) := by decide +kernel
theorem dX6_hearer_32 : decode cX6_hearer 32 = .ok (.invokevirtual 75, 3) := by decide +kernel
theorem dX6_hearer_35 : decode cX6_hearer 35 = .ok (.ireturn, 1) := by decide +kernel
theorem dX6_hearer_36 : decode cX6_hearer 36 = .ok (.aload_n 0, 1) := by decide +kernel
theorem dX6_hearer_37 : decode cX6_hearer 37 = .ok (.getfield 7, 3) := by decide +kernel
theorem dX6_hearer_40 : decode cX6_hearer 40 = .ok (.bipush 40, 2) := by decide +kernel
theorem dX6_hearer_42 : decode cX6_hearer 42 = .ok (.aload_n 0, 1) := by decide +kernel
theorem dX6_hearer_43 : decode cX6_hearer 43 = .ok (.getfield 7, 3) := by decide +kernel
theorem dX6_hearer_46 : decode cX6_hearer 46 = .ok (.iconst 1, 1) := by decide +kernel
theorem dX6_hearer_47 : decode cX6_hearer 47 = .ok (.iaload, 1) := by decide +kernel
theorem dX6_hearer_48 : decode cX6_hearer 48 = .ok (.iadd, 1) := by decide +kernel
theorem dX6_hearer_49 : decode cX6_hearer 49 = .ok (.iload_n 1, 1) := by decide +kernel
theorem dX6_hearer_50 : decode cX6_hearer 50 = .ok (.iastore, 1) := by decide +kernel
theorem dX6_hearer_51 : decode cX6_hearer 51 = .ok (.aload_n 0, 1) := by decide +kernel
theorem dX6_hearer_52 : decode cX6_hearer 52 = .ok (.getfield 7, 3) := by decide +kernel
theorem dX6_hearer_55 : decode cX6_hearer 55 = .ok (.bipush 44, 2) := by decide +kernel
theorem dX6_hearer_57 : decode cX6_hearer 57 = .ok (.aload_n 0, 1) := by decide +kernel
theorem dX6_hearer_58 : decode cX6_hearer 58 = .ok (.getfield 7, 3) := by decide +kernel
theorem dX6_hearer_61 : decode cX6_hearer 61 = .ok (.iconst 1, 1) := by decide +kernel
theorem dX6_hearer_62 : decode cX6_hearer 62 = .ok (.iaload, 1) := by decide +kernel
theorem dX6_hearer_63 : decode cX6_hearer 63 = .ok (.iadd, 1) := by decide +kernel
theorem dX6_hearer_64 : decode cX6_hearer 64 = .ok (.iload_n 2, 1) := by decide +kernel
theorem dX6_hearer_65 : decode cX6_hearer 65 = .ok (.iastore, 1) := by decide +kernel
theorem dX6_hearer_66 : decode cX6_hearer 66 = .ok (.aload_n 0, 1) := by decide +kernel
theorem dX6_hearer_67 : decode cX6_hearer 67 = .ok (.getfield 7, 3) := by decide +kernel
theorem dX6_hearer_70 : decode cX6_hearer 70 = .ok (.iconst 1, 1) := by decide +kernel
theorem dX6_hearer_71 : decode cX6_hearer 71 = .ok (.dup2, 1) := by decide +kernel
theorem dX6_hearer_72 : decode cX6_hearer 72 = .ok (.iaload, 1) := by decide +kernel
theorem dX6_hearer_73 : decode cX6_hearer 73 = .ok (.iconst 1, 1) := by decide +kernel
theorem dX6_hearer_74 : decode cX6_hearer 74 = .ok (.iadd, 1) := by decide +kernel
theorem dX6_hearer_75 : decode cX6_hearer 75 = .ok (.iastore, 1) := by decide +kernel
theorem dX6_hearer_76 : decode cX6_hearer 76 = .ok (.aload_n 0, 1) := by decide +kernel
theorem dX6_hearer_77 : decode cX6_hearer 77 = .ok (.getfield 7, 3) := by decide +kernel
theorem dX6_hearer_80 : decode cX6_hearer 80 = .ok (.bipush 6, 2) := by decide +kernel
theorem dX6_hearer_82 : decode cX6_hearer 82 = .ok (.iconst 0, 1) := by decide +kernel
theorem dX6_hearer_83 : decode cX6_hearer 83 = .ok (.iastore, 1) := by decide +kernel
theorem dX6_hearer_84 : decode cX6_hearer 84 = .ok (.aload_n 0, 1) := by decide +kernel
theorem dX6_hearer_85 : decode cX6_hearer 85 = .ok (.getfield 7, 3) := by decide +kernel
theorem dX6_hearer_88 : decode cX6_hearer 88 = .ok (.iconst 1, 1) := by decide +kernel
theorem dX6_hearer_89 : decode cX6_hearer 89 = .ok (.iaload, 1) := by decide +kernel
theorem dX6_hearer_90 : decode cX6_hearer 90 = .ok (.iconst 1, 1) := by decide +kernel
theorem dX6_hearer_91 : decode cX6_hearer 91 = .ok (.isub, 1) := by decide +kernel
theorem dX6_hearer_92 : decode cX6_hearer 92 = .ok (.ireturn, 1) := by decide +kernel
theorem dX6_buyer_0 : decode cX6_buyer 0 = .ok (.iload_n 1, 1) := by decide +kernel
theorem dX6_buyer_1 : decode cX6_buyer 1 = .ok (.i2l, 1) := by decide +kernel
theorem dX6_buyer_2 : decode cX6_buyer 2 = .ok (.lconst 0, 1) := by decide +kernel
theorem dX6_buyer_3 : decode cX6_buyer 3 = .ok (.ldc2_w 82, 3) := by decide +kernel
theorem dX6_buyer_6 : decode cX6_buyer 6 = .ok (.invokestatic 56, 3) := by decide +kernel
theorem dX6_buyer_9 : decode cX6_buyer 9 = .ok (.ifCond .ne 10, 3) := by decide +kernel
theorem dX6_buyer_12 : decode cX6_buyer 12 = .ok (.aload_n 0, 1) := by decide +kernel
theorem dX6_buyer_13 : decode cX6_buyer 13 = .ok (.bipush (-2), 2) := by decide +kernel
theorem dX6_buyer_15 : decode cX6_buyer 15 = .ok (.invokevirtual 71, 3) := by decide +kernel
theorem dX6_buyer_18 : decode cX6_buyer 18 = .ok (.ireturn, 1) := by decide +kernel
theorem dX6_buyer_19 : decode cX6_buyer 19 = .ok (.aload_n 0, 1) := by decide +kernel
theorem dX6_buyer_20 : decode cX6_buyer 20 = .ok (.getfield 7, 3) := by decide +kernel
theorem dX6_buyer_23 : decode cX6_buyer 23 = .ok (.iconst 2, 1) := by decide +kernel
theorem dX6_buyer_24 : decode cX6_buyer 24 = .ok (.iaload, 1) := by decide +kernel
theorem dX6_buyer_25 : decode cX6_buyer 25 = .ok (.iconst 3, 1) := by decide +kernel
theorem dX6_buyer_26 : decode cX6_buyer 26 = .ok (.if_icmp .ne 8, 3) := by decide +kernel
theorem dX6_buyer_29 : decode cX6_buyer 29 = .ok (.aload_n 0, 1) := by decide +kernel
theorem dX6_buyer_30 : decode cX6_buyer 30 = .ok (.invokevirtual 75, 3) := by decide +kernel
theorem dX6_buyer_33 : decode cX6_buyer 33 = .ok (.ireturn, 1) := by decide +kernel
theorem dX6_buyer_34 : decode cX6_buyer 34 = .ok (.aload_n 0, 1) := by decide +kernel
theorem dX6_buyer_35 : decode cX6_buyer 35 = .ok (.getfield 7, 3) := by decide +kernel
theorem dX6_buyer_38 : decode cX6_buyer 38 = .ok (.bipush 21, 2) := by decide +kernel
theorem dX6_buyer_40 : decode cX6_buyer 40 = .ok (.aload_n 0, 1) := by decide +kernel
theorem dX6_buyer_41 : decode cX6_buyer 41 = .ok (.getfield 7, 3) := by decide +kernel
theorem dX6_buyer_44 : decode cX6_buyer 44 = .ok (.iconst 2, 1) := by decide +kernel
theorem dX6_buyer_45 : decode cX6_buyer 45 = .ok (.iaload, 1) := by decide +kernel
theorem dX6_buyer_46 : decode cX6_buyer 46 = .ok (.iadd, 1) := by decide +kernel
theorem dX6_buyer_47 : decode cX6_buyer 47 = .ok (.iload_n 1, 1) := by decide +kernel
theorem dX6_buyer_48 : decode cX6_buyer 48 = .ok (.iastore, 1) := by decide +kernel
theorem dX6_buyer_49 : decode cX6_buyer 49 = .ok (.aload_n 0, 1) := by decide +kernel
theorem dX6_buyer_50 : decode cX6_buyer 50 = .ok (.getfield 7, 3) := by decide +kernel
theorem dX6_buyer_53 : decode cX6_buyer 53 = .ok (.iconst 2, 1) := by decide +kernel
theorem dX6_buyer_54 : decode cX6_buyer 54 = .ok (.dup2, 1) := by decide +kernel
theorem dX6_buyer_55 : decode cX6_buyer 55 = .ok (.iaload, 1) := by decide +kernel
theorem dX6_buyer_56 : decode cX6_buyer 56 = .ok (.iconst 1, 1) := by decide +kernel
theorem dX6_buyer_57 : decode cX6_buyer 57 = .ok (.iadd, 1) := by decide +kernel
theorem dX6_buyer_58 : decode cX6_buyer 58 = .ok (.iastore, 1) := by decide +kernel
theorem dX6_buyer_59 : decode cX6_buyer 59 = .ok (.aload_n 0, 1) := by decide +kernel
theorem dX6_buyer_60 : decode cX6_buyer 60 = .ok (.getfield 7, 3) := by decide +kernel
theorem dX6_buyer_63 : decode cX6_buyer 63 = .ok (.bipush 6, 2) := by decide +kernel
theorem dX6_buyer_65 : decode cX6_buyer 65 = .ok (.iconst 0, 1) := by decide +kernel
theorem dX6_buyer_66 : decode cX6_buyer 66 = .ok (.iastore, 1) := by decide +kernel
theorem dX6_buyer_67 : decode cX6_buyer 67 = .ok (.aload_n 0, 1) := by decide +kernel
theorem dX6_buyer_68 : decode cX6_buyer 68 = .ok (.getfield 7, 3) := by decide +kernel
theorem dX6_buyer_71 : decode cX6_buyer 71 = .ok (.iconst 2, 1) := by decide +kernel
theorem dX6_buyer_72 : decode cX6_buyer 72 = .ok (.iaload, 1) := by decide +kernel
theorem dX6_buyer_73 : decode cX6_buyer 73 = .ok (.iconst 1, 1) := by decide +kernel
theorem dX6_buyer_74 : decode cX6_buyer 74 = .ok (.isub, 1) := by decide +kernel
theorem dX6_buyer_75 : decode cX6_buyer 75 = .ok (.ireturn, 1) := by decide +kernel
theorem dX6_goodAs_0 : decode cX6_goodAs 0 = .ok (.iload_n 1, 1) := by decide +kernel
theorem dX6_goodAs_1 : decode cX6_goodAs 1 = .ok (.iload_n 2, 1) := by decide +kernel
theorem dX6_goodAs_2 : decode cX6_goodAs 2 = .ok (.bipush 10, 2) := by decide +kernel
theorem dX6_goodAs_4 : decode cX6_goodAs 4 = .ok (.idiv, 1) := by decide +kernel
theorem dX6_goodAs_5 : decode cX6_goodAs 5 = .ok (.iconst 5, 1) := by decide +kernel
theorem dX6_goodAs_6 : decode cX6_goodAs 6 = .ok (.if_icmp .le 7, 3) := by decide +kernel
theorem dX6_goodAs_9 : decode cX6_goodAs 9 = .ok (.iconst 5, 1) := by decide +kernel
theorem dX6_goodAs_10 : decode cX6_goodAs 10 = .ok (.goto 7, 3) := by decide +kernel
theorem dX6_goodAs_13 : decode cX6_goodAs 13 = .ok (.iload_n 2, 1) := by decide +kernel
theorem dX6_goodAs_14 : decode cX6_goodAs 14 = .ok (.bipush 10, 2) := by decide +kernel
theorem dX6_goodAs_16 : decode cX6_goodAs 16 = .ok (.idiv, 1) := by decide +kernel
theorem dX6_goodAs_17 : decode cX6_goodAs 17 = .ok (.iadd, 1) := by decide +kernel
theorem dX6_goodAs_18 : decode cX6_goodAs 18 = .ok (.istore_n 3, 1) := by decide +kernel
theorem dX6_goodAs_19 : decode cX6_goodAs 19 = .ok (.iload_n 1, 1) := by decide +kernel
theorem dX6_goodAs_20 : decode cX6_goodAs 20 = .ok (.iload_n 2, 1) := by decide +kernel
theorem dX6_goodAs_21 : decode cX6_goodAs 21 = .ok (.iconst 5, 1) := by decide +kernel
theorem dX6_goodAs_22 : decode cX6_goodAs 22 = .ok (.idiv, 1) := by decide +kernel
theorem dX6_goodAs_23 : decode cX6_goodAs 23 = .ok (.if_icmp .le 11, 3) := by decide +kernel
theorem dX6_goodAs_26 : decode cX6_goodAs 26 = .ok (.iload_n 1, 1) := by decide +kernel
theorem dX6_goodAs_27 : decode cX6_goodAs 27 = .ok (.iload_n 2, 1) := by decide +kernel
theorem dX6_goodAs_28 : decode cX6_goodAs 28 = .ok (.iconst 5, 1) := by decide +kernel
theorem dX6_goodAs_29 : decode cX6_goodAs 29 = .ok (.idiv, 1) := by decide +kernel
theorem dX6_goodAs_30 : decode cX6_goodAs 30 = .ok (.isub, 1) := by decide +kernel
theorem dX6_goodAs_31 : decode cX6_goodAs 31 = .ok (.goto 4, 3) := by decide +kernel
theorem dX6_goodAs_34 : decode cX6_goodAs 34 = .ok (.iconst 0, 1) := by decide +kernel
theorem dX6_goodAs_35 : decode cX6_goodAs 35 = .ok (.istore 4, 2) := by decide +kernel
theorem dX6_goodAs_37 : decode cX6_goodAs 37 = .ok (.iload_n 0, 1) := by decide +kernel
theorem dX6_goodAs_38 : decode cX6_goodAs 38 = .ok (.tableswitch 83 1 5 #[34, 36, 39, 52, 66], 34) := by decide +kernel
theorem dX6_goodAs_72 : decode cX6_goodAs 72 = .ok (.iload_n 3, 1) := by decide +kernel
theorem dX6_goodAs_73 : decode cX6_goodAs 73 = .ok (.ireturn, 1) := by decide +kernel
theorem dX6_goodAs_74 : decode cX6_goodAs 74 = .ok (.iload 4, 2) := by decide +kernel
theorem dX6_goodAs_76 : decode cX6_goodAs 76 = .ok (.ireturn, 1) := by decide +kernel
theorem dX6_goodAs_77 : decode cX6_goodAs 77 = .ok (.iload 4, 2) := by decide +kernel
theorem dX6_goodAs_79 : decode cX6_goodAs 79 = .ok (.iconst 2, 1) := by decide +kernel
theorem dX6_goodAs_80 : decode cX6_goodAs 80 = .ok (.if_icmp .ge 7, 3) := by decide +kernel
theorem dX6_goodAs_83 : decode cX6_goodAs 83 = .ok (.iconst 2, 1) := by decide +kernel
theorem dX6_goodAs_84 : decode cX6_goodAs 84 = .ok (.goto 5, 3) := by decide +kernel
theorem dX6_goodAs_87 : decode cX6_goodAs 87 = .ok (.iload 4, 2) := by decide +kernel
theorem dX6_goodAs_89 : decode cX6_goodAs 89 = .ok (.ireturn, 1) := by decide +kernel
theorem dX6_goodAs_90 : decode cX6_goodAs 90 = .ok (.iload_n 2, 1) := by decide +kernel
theorem dX6_goodAs_91 : decode cX6_goodAs 91 = .ok (.bipush 7, 2) := by decide +kernel
theorem dX6_goodAs_93 : decode cX6_goodAs 93 = .ok (.if_icmp .ge 7, 3) := by decide +kernel
theorem dX6_goodAs_96 : decode cX6_goodAs 96 = .ok (.iconst 0, 1) := by decide +kernel
theorem dX6_goodAs_97 : decode cX6_goodAs 97 = .ok (.goto 6, 3) := by decide +kernel
theorem dX6_goodAs_100 : decode cX6_goodAs 100 = .ok (.iload_n 1, 1) := by decide +kernel
theorem dX6_goodAs_101 : decode cX6_goodAs 101 = .ok (.iconst 3, 1) := by decide +kernel
theorem dX6_goodAs_102 : decode cX6_goodAs 102 = .ok (.iadd, 1) := by decide +kernel
theorem dX6_goodAs_103 : decode cX6_goodAs 103 = .ok (.ireturn, 1) := by decide +kernel
theorem dX6_goodAs_104 : decode cX6_goodAs 104 = .ok (.iconst 2, 1) := by decide +kernel
theorem dX6_goodAs_105 : decode cX6_goodAs 105 = .ok (.iload_n 3, 1) := by decide +kernel
theorem dX6_goodAs_106 : decode cX6_goodAs 106 = .ok (.imul, 1) := by decide +kernel
theorem dX6_goodAs_107 : decode cX6_goodAs 107 = .ok (.bipush 25, 2) := by decide +kernel
theorem dX6_goodAs_109 : decode cX6_goodAs 109 = .ok (.if_icmp .le 8, 3) := by decide +kernel
theorem dX6_goodAs_112 : decode cX6_goodAs 112 = .ok (.bipush 25, 2) := by decide +kernel
theorem dX6_goodAs_114 : decode cX6_goodAs 114 = .ok (.goto 6, 3) := by decide +kernel
theorem dX6_goodAs_117 : decode cX6_goodAs 117 = .ok (.iconst 2, 1) := by decide +kernel
theorem dX6_goodAs_118 : decode cX6_goodAs 118 = .ok (.iload_n 3, 1) := by decide +kernel
theorem dX6_goodAs_119 : decode cX6_goodAs 119 = .ok (.imul, 1) := by decide +kernel
theorem dX6_goodAs_120 : decode cX6_goodAs 120 = .ok (.ireturn, 1) := by decide +kernel
theorem dX6_goodAs_121 : decode cX6_goodAs 121 = .ok (.iload_n 1, 1) := by decide +kernel
theorem dX6_goodAs_122 : decode cX6_goodAs 122 = .ok (.ireturn, 1) := by decide +kernel
theorem dX6_joyAs_0 : decode cX6_joyAs 0 = .ok (.iload_n 1, 1) := by decide +kernel
theorem dX6_joyAs_1 : decode cX6_joyAs 1 = .ok (.iload_n 2, 1) := by decide +kernel
theorem dX6_joyAs_2 : decode cX6_joyAs 2 = .ok (.if_icmp .le 9, 3) := by decide +kernel
theorem dX6_joyAs_5 : decode cX6_joyAs 5 = .ok (.iload_n 1, 1) := by decide +kernel
theorem dX6_joyAs_6 : decode cX6_joyAs 6 = .ok (.iload_n 2, 1) := by decide +kernel
theorem dX6_joyAs_7 : decode cX6_joyAs 7 = .ok (.isub, 1) := by decide +kernel
theorem dX6_joyAs_8 : decode cX6_joyAs 8 = .ok (.goto 6, 3) := by decide +kernel
theorem dX6_joyAs_11 : decode cX6_joyAs 11 = .ok (.iload_n 2, 1) := by decide +kernel
theorem dX6_joyAs_12 : decode cX6_joyAs 12 = .ok (.iload_n 1, 1) := by decide +kernel
theorem dX6_joyAs_13 : decode cX6_joyAs 13 = .ok (.isub, 1) := by decide +kernel
theorem dX6_joyAs_14 : decode cX6_joyAs 14 = .ok (.istore_n 3, 1) := by decide +kernel
theorem dX6_joyAs_15 : decode cX6_joyAs 15 = .ok (.iload_n 3, 1) := by decide +kernel
theorem dX6_joyAs_16 : decode cX6_joyAs 16 = .ok (.bipush 6, 2) := by decide +kernel
theorem dX6_joyAs_18 : decode cX6_joyAs 18 = .ok (.if_icmp .ge 10, 3) := by decide +kernel
theorem dX6_joyAs_21 : decode cX6_joyAs 21 = .ok (.bipush 6, 2) := by decide +kernel
theorem dX6_joyAs_23 : decode cX6_joyAs 23 = .ok (.iload_n 3, 1) := by decide +kernel
theorem dX6_joyAs_24 : decode cX6_joyAs 24 = .ok (.isub, 1) := by decide +kernel
theorem dX6_joyAs_25 : decode cX6_joyAs 25 = .ok (.goto 4, 3) := by decide +kernel
theorem dX6_joyAs_28 : decode cX6_joyAs 28 = .ok (.iconst 0, 1) := by decide +kernel
theorem dX6_joyAs_29 : decode cX6_joyAs 29 = .ok (.istore 4, 2) := by decide +kernel
theorem dX6_joyAs_31 : decode cX6_joyAs 31 = .ok (.iload_n 1, 1) := by decide +kernel
theorem dX6_joyAs_32 : decode cX6_joyAs 32 = .ok (.iload_n 2, 1) := by decide +kernel
theorem dX6_joyAs_33 : decode cX6_joyAs 33 = .ok (.if_icmp .lt 10, 3) := by decide +kernel
theorem dX6_joyAs_36 : decode cX6_joyAs 36 = .ok (.iload 4, 2) := by decide +kernel
theorem dX6_joyAs_38 : decode cX6_joyAs 38 = .ok (.iconst 2, 1) := by decide +kernel
theorem dX6_joyAs_39 : decode cX6_joyAs 39 = .ok (.iadd, 1) := by decide +kernel
theorem dX6_joyAs_40 : decode cX6_joyAs 40 = .ok (.goto 5, 3) := by decide +kernel
theorem dX6_joyAs_43 : decode cX6_joyAs 43 = .ok (.iload 4, 2) := by decide +kernel
theorem dX6_joyAs_45 : decode cX6_joyAs 45 = .ok (.istore 5, 2) := by decide +kernel
theorem dX6_joyAs_47 : decode cX6_joyAs 47 = .ok (.iload 4, 2) := by decide +kernel
theorem dX6_joyAs_49 : decode cX6_joyAs 49 = .ok (.iconst 3, 1) := by decide +kernel
theorem dX6_joyAs_50 : decode cX6_joyAs 50 = .ok (.if_icmp .ge 7, 3) := by decide +kernel
theorem dX6_joyAs_53 : decode cX6_joyAs 53 = .ok (.iconst 3, 1) := by decide +kernel
theorem dX6_joyAs_54 : decode cX6_joyAs 54 = .ok (.goto 5, 3) := by decide +kernel
theorem dX6_joyAs_57 : decode cX6_joyAs 57 = .ok (.iload 4, 2) := by decide +kernel
theorem dX6_joyAs_59 : decode cX6_joyAs 59 = .ok (.istore 6, 2) := by decide +kernel
theorem dX6_joyAs_61 : decode cX6_joyAs 61 = .ok (.iload_n 0, 1) := by decide +kernel
theorem dX6_joyAs_62 : decode cX6_joyAs 62 = .ok (.tableswitch 64 1 5 #[34, 37, 40, 47, 59], 34) := by decide +kernel
theorem dX6_joyAs_96 : decode cX6_joyAs 96 = .ok (.iload 5, 2) := by decide +kernel
theorem dX6_joyAs_98 : decode cX6_joyAs 98 = .ok (.ireturn, 1) := by decide +kernel
theorem dX6_joyAs_99 : decode cX6_joyAs 99 = .ok (.iload 6, 2) := by decide +kernel
theorem dX6_joyAs_101 : decode cX6_joyAs 101 = .ok (.ireturn, 1) := by decide +kernel
theorem dX6_joyAs_102 : decode cX6_joyAs 102 = .ok (.iload 5, 2) := by decide +kernel
theorem dX6_joyAs_104 : decode cX6_joyAs 104 = .ok (.iconst 1, 1) := by decide +kernel
theorem dX6_joyAs_105 : decode cX6_joyAs 105 = .ok (.iadd, 1) := by decide +kernel
theorem dX6_joyAs_106 : decode cX6_joyAs 106 = .ok (.iconst 2, 1) := by decide +kernel
theorem dX6_joyAs_107 : decode cX6_joyAs 107 = .ok (.idiv, 1) := by decide +kernel
theorem dX6_joyAs_108 : decode cX6_joyAs 108 = .ok (.ireturn, 1) := by decide +kernel
theorem dX6_joyAs_109 : decode cX6_joyAs 109 = .ok (.iload_n 1, 1) := by decide +kernel
theorem dX6_joyAs_110 : decode cX6_joyAs 110 = .ok (.iconst 4, 1) := by decide +kernel
theorem dX6_joyAs_111 : decode cX6_joyAs 111 = .ok (.if_icmp .ge 7, 3) := by decide +kernel
theorem dX6_joyAs_114 : decode cX6_joyAs 114 = .ok (.iconst 0, 1) := by decide +kernel
theorem dX6_joyAs_115 : decode cX6_joyAs 115 = .ok (.goto 5, 3) := by decide +kernel
theorem dX6_joyAs_118 : decode cX6_joyAs 118 = .ok (.iload 4, 2) := by decide +kernel
theorem dX6_joyAs_120 : decode cX6_joyAs 120 = .ok (.ireturn, 1) := by decide +kernel
theorem dX6_joyAs_121 : decode cX6_joyAs 121 = .ok (.iconst 2, 1) := by decide +kernel
theorem dX6_joyAs_122 : decode cX6_joyAs 122 = .ok (.iload 6, 2) := by decide +kernel
theorem dX6_joyAs_124 : decode cX6_joyAs 124 = .ok (.imul, 1) := by decide +kernel
theorem dX6_joyAs_125 : decode cX6_joyAs 125 = .ok (.ireturn, 1) := by decide +kernel
theorem dX6_joyAs_126 : decode cX6_joyAs 126 = .ok (.iload 4, 2) := by decide +kernel
theorem dX6_joyAs_128 : decode cX6_joyAs 128 = .ok (.ireturn, 1) := by decide +kernel
theorem dX6_goodOf_0 : decode cX6_goodOf 0 = .ok (.aload_n 0, 1) := by decide +kernel
theorem dX6_goodOf_1 : decode cX6_goodOf 1 = .ok (.bipush 26, 2) := by decide +kernel
theorem dX6_goodOf_3 : decode cX6_goodOf 3 = .ok (.iload_n 1, 1) := by decide +kernel
theorem dX6_goodOf_4 : decode cX6_goodOf 4 = .ok (.iadd, 1) := by decide +kernel
theorem dX6_goodOf_5 : decode cX6_goodOf 5 = .ok (.iaload, 1) := by decide +kernel
theorem dX6_goodOf_6 : decode cX6_goodOf 6 = .ok (.aload_n 0, 1) := by decide +kernel
theorem dX6_goodOf_7 : decode cX6_goodOf 7 = .ok (.bipush 33, 2) := by decide +kernel
theorem dX6_goodOf_9 : decode cX6_goodOf 9 = .ok (.iload_n 1, 1) := by decide +kernel
theorem dX6_goodOf_10 : decode cX6_goodOf 10 = .ok (.iadd, 1) := by decide +kernel
theorem dX6_goodOf_11 : decode cX6_goodOf 11 = .ok (.iaload, 1) := by decide +kernel
theorem dX6_goodOf_12 : decode cX6_goodOf 12 = .ok (.aload_n 0, 1) := by decide +kernel
theorem dX6_goodOf_13 : decode cX6_goodOf 13 = .ok (.bipush 14, 2) := by decide +kernel
theorem dX6_goodOf_15 : decode cX6_goodOf 15 = .ok (.iload_n 1, 1) := by decide +kernel
theorem dX6_goodOf_16 : decode cX6_goodOf 16 = .ok (.iadd, 1) := by decide +kernel
theorem dX6_goodOf_17 : decode cX6_goodOf 17 = .ok (.iaload, 1) := by decide +kernel
theorem dX6_goodOf_18 : decode cX6_goodOf 18 = .ok (.invokestatic 84, 3) := by decide +kernel
theorem dX6_goodOf_21 : decode cX6_goodOf 21 = .ok (.ireturn, 1) := by decide +kernel
theorem dX6_priceOf_0 : decode cX6_priceOf 0 = .ok (.iconst 2, 1) := by decide +kernel
theorem dX6_priceOf_1 : decode cX6_priceOf 1 = .ok (.aload_n 0, 1) := by decide +kernel
theorem dX6_priceOf_2 : decode cX6_priceOf 2 = .ok (.iload_n 1, 1) := by decide +kernel
theorem dX6_priceOf_3 : decode cX6_priceOf 3 = .ok (.invokestatic 88, 3) := by decide +kernel
theorem dX6_priceOf_6 : decode cX6_priceOf 6 = .ok (.imul, 1) := by decide +kernel
theorem dX6_priceOf_7 : decode cX6_priceOf 7 = .ok (.iconst 1, 1) := by decide +kernel
theorem dX6_priceOf_8 : decode cX6_priceOf 8 = .ok (.iadd, 1) := by decide +kernel
theorem dX6_priceOf_9 : decode cX6_priceOf 9 = .ok (.ireturn, 1) := by decide +kernel
theorem dX6_joyOf_0 : decode cX6_joyOf 0 = .ok (.aload_n 0, 1) := by decide +kernel
theorem dX6_joyOf_1 : decode cX6_joyOf 1 = .ok (.bipush 40, 2) := by decide +kernel
theorem dX6_joyOf_3 : decode cX6_joyOf 3 = .ok (.iload_n 2, 1) := by decide +kernel
theorem dX6_joyOf_4 : decode cX6_joyOf 4 = .ok (.iadd, 1) := by decide +kernel
theorem dX6_joyOf_5 : decode cX6_joyOf 5 = .ok (.iaload, 1) := by decide +kernel
theorem dX6_joyOf_6 : decode cX6_joyOf 6 = .ok (.aload_n 0, 1) := by decide +kernel
theorem dX6_joyOf_7 : decode cX6_joyOf 7 = .ok (.iload_n 1, 1) := by decide +kernel
theorem dX6_joyOf_8 : decode cX6_joyOf 8 = .ok (.invokestatic 88, 3) := by decide +kernel
theorem dX6_joyOf_11 : decode cX6_joyOf 11 = .ok (.aload_n 0, 1) := by decide +kernel
theorem dX6_joyOf_12 : decode cX6_joyOf 12 = .ok (.bipush 44, 2) := by decide +kernel
theorem dX6_joyOf_14 : decode cX6_joyOf 14 = .ok (.iload_n 2, 1) := by decide +kernel
theorem dX6_joyOf_15 : decode cX6_joyOf 15 = .ok (.iadd, 1) := by decide +kernel
theorem dX6_joyOf_16 : decode cX6_joyOf 16 = .ok (.iaload, 1) := by decide +kernel
theorem dX6_joyOf_17 : decode cX6_joyOf 17 = .ok (.invokestatic 92, 3) := by decide +kernel
theorem dX6_joyOf_20 : decode cX6_joyOf 20 = .ok (.ireturn, 1) := by decide +kernel
theorem dX6_isShown_0 : decode cX6_isShown 0 = .ok (.aload_n 0, 1) := by decide +kernel
theorem dX6_isShown_1 : decode cX6_isShown 1 = .ok (.bipush 7, 2) := by decide +kernel
theorem dX6_isShown_3 : decode cX6_isShown 3 = .ok (.iload_n 1, 1) := by decide +kernel
theorem dX6_isShown_4 : decode cX6_isShown 4 = .ok (.iadd, 1) := by decide +kernel
theorem dX6_isShown_5 : decode cX6_isShown 5 = .ok (.iaload, 1) := by decide +kernel
theorem dX6_isShown_6 : decode cX6_isShown 6 = .ok (.ifCond .ne 7, 3) := by decide +kernel
theorem dX6_isShown_9 : decode cX6_isShown 9 = .ok (.iconst 1, 1) := by decide +kernel
theorem dX6_isShown_10 : decode cX6_isShown 10 = .ok (.goto 4, 3) := by decide +kernel
theorem dX6_isShown_13 : decode cX6_isShown 13 = .ok (.iconst 0, 1) := by decide +kernel
theorem dX6_isShown_14 : decode cX6_isShown 14 = .ok (.ireturn, 1) := by decide +kernel
theorem dX6_isHeld_0 : decode cX6_isHeld 0 = .ok (.aload_n 0, 1) := by decide +kernel
theorem dX6_isHeld_1 : decode cX6_isHeld 1 = .ok (.bipush 7, 2) := by decide +kernel
theorem dX6_isHeld_3 : decode cX6_isHeld 3 = .ok (.iload_n 1, 1) := by decide +kernel
theorem dX6_isHeld_4 : decode cX6_isHeld 4 = .ok (.iadd, 1) := by decide +kernel
theorem dX6_isHeld_5 : decode cX6_isHeld 5 = .ok (.iaload, 1) := by decide +kernel
theorem dX6_isHeld_6 : decode cX6_isHeld 6 = .ok (.iconst 1, 1) := by decide +kernel
theorem dX6_isHeld_7 : decode cX6_isHeld 7 = .ok (.if_icmp .lt 18, 3) := by decide +kernel
theorem dX6_isHeld_10 : decode cX6_isHeld 10 = .ok (.aload_n 0, 1) := by decide +kernel
theorem dX6_isHeld_11 : decode cX6_isHeld 11 = .ok (.bipush 7, 2) := by decide +kernel
theorem dX6_isHeld_13 : decode cX6_isHeld 13 = .ok (.iload_n 1, 1) := by decide +kernel
theorem dX6_isHeld_14 : decode cX6_isHeld 14 = .ok (.iadd, 1) := by decide +kernel
theorem dX6_isHeld_15 : decode cX6_isHeld 15 = .ok (.iaload, 1) := by decide +kernel
theorem dX6_isHeld_16 : decode cX6_isHeld 16 = .ok (.bipush 10, 2) := by decide +kernel
theorem dX6_isHeld_18 : decode cX6_isHeld 18 = .ok (.if_icmp .ge 7, 3) := by decide +kernel
theorem dX6_isHeld_21 : decode cX6_isHeld 21 = .ok (.iconst 1, 1) := by decide +kernel
theorem dX6_isHeld_22 : decode cX6_isHeld 22 = .ok (.goto 4, 3) := by decide +kernel
theorem dX6_isHeld_25 : decode cX6_isHeld 25 = .ok (.iconst 0, 1) := by decide +kernel
theorem dX6_isHeld_26 : decode cX6_isHeld 26 = .ok (.ireturn, 1) := by decide +kernel
theorem dX6_goDay_0 : decode cX6_goDay 0 = .ok (.iconst 0, 1) := by decide +kernel
theorem dX6_goDay_1 : decode cX6_goDay 1 = .ok (.istore_n 1, 1) := by decide +kernel
theorem dX6_goDay_2 : decode cX6_goDay 2 = .ok (.iload_n 1, 1) := by decide +kernel
theorem dX6_goDay_3 : decode cX6_goDay 3 = .ok (.aload_n 0, 1) := by decide +kernel
theorem dX6_goDay_4 : decode cX6_goDay 4 = .ok (.iconst 0, 1) := by decide +kernel
theorem dX6_goDay_5 : decode cX6_goDay 5 = .ok (.iaload, 1) := by decide +kernel
theorem dX6_goDay_6 : decode cX6_goDay 6 = .ok (.if_icmp .ge 31, 3) := by decide +kernel
theorem dX6_goDay_9 : decode cX6_goDay 9 = .ok (.aload_n 0, 1) := by decide +kernel
theorem dX6_goDay_10 : decode cX6_goDay 10 = .ok (.bipush 14, 2) := by decide +kernel
theorem dX6_goDay_12 : decode cX6_goDay 12 = .ok (.iload_n 1, 1) := by decide +kernel
theorem dX6_goDay_13 : decode cX6_goDay 13 = .ok (.iadd, 1) := by decide +kernel
theorem dX6_goDay_14 : decode cX6_goDay 14 = .ok (.dup2, 1) := by decide +kernel
theorem dX6_goDay_15 : decode cX6_goDay 15 = .ok (.iaload, 1) := by decide +kernel
theorem dX6_goDay_16 : decode cX6_goDay 16 = .ok (.aload_n 0, 1) := by decide +kernel
theorem dX6_goDay_17 : decode cX6_goDay 17 = .ok (.iload_n 1, 1) := by decide +kernel
theorem dX6_goDay_18 : decode cX6_goDay 18 = .ok (.invokestatic 95, 3) := by decide +kernel
theorem dX6_goDay_21 : decode cX6_goDay 21 = .ok (.ifCond .eq 7, 3) := by decide +kernel
theorem dX6_goDay_24 : decode cX6_goDay 24 = .ok (.iconst 1, 1) := by decide +kernel
theorem dX6_goDay_25 : decode cX6_goDay 25 = .ok (.goto 4, 3) := by decide +kernel
theorem dX6_goDay_28 : decode cX6_goDay 28 = .ok (.iconst 0, 1) := by decide +kernel
theorem dX6_goDay_29 : decode cX6_goDay 29 = .ok (.iadd, 1) := by decide +kernel
theorem dX6_goDay_30 : decode cX6_goDay 30 = .ok (.iastore, 1) := by decide +kernel
theorem dX6_goDay_31 : decode cX6_goDay 31 = .ok (.iinc 1 1, 3) := by decide +kernel
theorem dX6_goDay_34 : decode cX6_goDay 34 = .ok (.goto (-32), 3) := by decide +kernel
theorem dX6_goDay_37 : decode cX6_goDay 37 = .ok (.aload_n 0, 1) := by decide +kernel
theorem dX6_goDay_38 : decode cX6_goDay 38 = .ok (.bipush 25, 2) := by decide +kernel
theorem dX6_goDay_40 : decode cX6_goDay 40 = .ok (.dup2, 1) := by decide +kernel
theorem dX6_goDay_41 : decode cX6_goDay 41 = .ok (.iaload, 1) := by decide +kernel
theorem dX6_goDay_42 : decode cX6_goDay 42 = .ok (.iconst 1, 1) := by decide +kernel
theorem dX6_goDay_43 : decode cX6_goDay 43 = .ok (.iadd, 1) := by decide +kernel
theorem dX6_goDay_44 : decode cX6_goDay 44 = .ok (.iastore, 1) := by decide +kernel
theorem dX6_goDay_45 : decode cX6_goDay 45 = .ok (.return_, 1) := by decide +kernel
theorem dX6_goDays_0 : decode cX6_goDays 0 = .ok (.iconst 0, 1) := by decide +kernel
theorem dX6_goDays_1 : decode cX6_goDays 1 = .ok (.istore_n 2, 1) := by decide +kernel
theorem dX6_goDays_2 : decode cX6_goDays 2 = .ok (.iload_n 2, 1) := by decide +kernel
theorem dX6_goDays_3 : decode cX6_goDays 3 = .ok (.iload_n 1, 1) := by decide +kernel
theorem dX6_goDays_4 : decode cX6_goDays 4 = .ok (.if_icmp .ge 23, 3) := by decide +kernel
theorem dX6_goDays_7 : decode cX6_goDays 7 = .ok (.aload_n 0, 1) := by decide +kernel
theorem dX6_goDays_8 : decode cX6_goDays 8 = .ok (.bipush 25, 2) := by decide +kernel
theorem dX6_goDays_10 : decode cX6_goDays 10 = .ok (.iaload, 1) := by decide +kernel
theorem dX6_goDays_11 : decode cX6_goDays 11 = .ok (.sipush 9999, 3) := by decide +kernel
theorem dX6_goDays_14 : decode cX6_goDays 14 = .ok (.if_icmp .ge 13, 3) := by decide +kernel
theorem dX6_goDays_17 : decode cX6_goDays 17 = .ok (.aload_n 0, 1) := by decide +kernel
theorem dX6_goDays_18 : decode cX6_goDays 18 = .ok (.invokestatic 99, 3) := by decide +kernel
theorem dX6_goDays_21 : decode cX6_goDays 21 = .ok (.iinc 2 1, 3) := by decide +kernel
theorem dX6_goDays_24 : decode cX6_goDays 24 = .ok (.goto (-22), 3) := by decide +kernel
theorem dX6_goDays_27 : decode cX6_goDays 27 = .ok (.return_, 1) := by decide +kernel
theorem dX6_save_0 : decode cX6_save 0 = .ok (.aload_n 0, 1) := by decide +kernel
theorem dX6_save_1 : decode cX6_save 1 = .ok (.getfield 7, 3) := by decide +kernel
theorem dX6_save_4 : decode cX6_save 4 = .ok (.bipush 6, 2) := by decide +kernel
theorem dX6_save_6 : decode cX6_save 6 = .ok (.iaload, 1) := by decide +kernel
theorem dX6_save_7 : decode cX6_save 7 = .ok (.bipush 8, 2) := by decide +kernel
theorem dX6_save_9 : decode cX6_save 9 = .ok (.if_icmp .ne 45, 3) := by decide +kernel
theorem dX6_save_12 : decode cX6_save 12 = .ok (.iconst 0, 1) := by decide +kernel
theorem dX6_save_13 : decode cX6_save 13 = .ok (.istore_n 1, 1) := by decide +kernel
theorem dX6_save_14 : decode cX6_save 14 = .ok (.iload_n 1, 1) := by decide +kernel
theorem dX6_save_15 : decode cX6_save 15 = .ok (.sipush 133, 3) := by decide +kernel
theorem dX6_save_18 : decode cX6_save 18 = .ok (.if_icmp .ge 27, 3) := by decide +kernel
theorem dX6_save_21 : decode cX6_save 21 = .ok (.aload_n 0, 1) := by decide +kernel
theorem dX6_save_22 : decode cX6_save 22 = .ok (.getfield 7, 3) := by decide +kernel
theorem dX6_save_25 : decode cX6_save 25 = .ok (.bipush 106, 2) := by decide +kernel
theorem dX6_save_27 : decode cX6_save 27 = .ok (.iload_n 1, 1) := by decide +kernel
theorem dX6_save_28 : decode cX6_save 28 = .ok (.iadd, 1) := by decide +kernel
theorem dX6_save_29 : decode cX6_save 29 = .ok (.aload_n 0, 1) := by decide +kernel
theorem dX6_save_30 : decode cX6_save 30 = .ok (.getfield 7, 3) := by decide +kernel
theorem dX6_save_33 : decode cX6_save 33 = .ok (.bipush 125, 2) := by decide +kernel
theorem dX6_save_35 : decode cX6_save 35 = .ok (.iload_n 1, 1) := by decide +kernel
theorem dX6_save_36 : decode cX6_save 36 = .ok (.iadd, 1) := by decide +kernel
theorem dX6_save_37 : decode cX6_save 37 = .ok (.iaload, 1) := by decide +kernel
theorem dX6_save_38 : decode cX6_save 38 = .ok (.iastore, 1) := by decide +kernel
theorem dX6_save_39 : decode cX6_save 39 = .ok (.iinc 1 1, 3) := by decide +kernel
theorem dX6_save_42 : decode cX6_save 42 = .ok (.goto (-28), 3) := by decide +kernel
theorem dX6_save_45 : decode cX6_save 45 = .ok (.aload_n 0, 1) := by decide +kernel
theorem dX6_save_46 : decode cX6_save 46 = .ok (.getfield 7, 3) := by decide +kernel
theorem dX6_save_49 : decode cX6_save 49 = .ok (.bipush 6, 2) := by decide +kernel
theorem dX6_save_51 : decode cX6_save 51 = .ok (.bipush 7, 2) := by decide +kernel
theorem dX6_save_53 : decode cX6_save 53 = .ok (.iastore, 1) := by decide +kernel
theorem dX6_save_54 : decode cX6_save 54 = .ok (.iconst 0, 1) := by decide +kernel
theorem dX6_save_55 : decode cX6_save 55 = .ok (.istore_n 1, 1) := by decide +kernel
theorem dX6_save_56 : decode cX6_save 56 = .ok (.iload_n 1, 1) := by decide +kernel
theorem dX6_save_57 : decode cX6_save 57 = .ok (.bipush 19, 2) := by decide +kernel
theorem dX6_save_59 : decode cX6_save 59 = .ok (.if_icmp .ge 38, 3) := by decide +kernel
theorem dX6_save_62 : decode cX6_save 62 = .ok (.aload_n 0, 1) := by decide +kernel
theorem dX6_save_63 : decode cX6_save 63 = .ok (.getfield 7, 3) := by decide +kernel
theorem dX6_save_66 : decode cX6_save 66 = .ok (.bipush 106, 2) := by decide +kernel
theorem dX6_save_68 : decode cX6_save 68 = .ok (.bipush 19, 2) := by decide +kernel
theorem dX6_save_70 : decode cX6_save 70 = .ok (.aload_n 0, 1) := by decide +kernel
theorem dX6_save_71 : decode cX6_save 71 = .ok (.getfield 7, 3) := by decide +kernel
theorem dX6_save_74 : decode cX6_save 74 = .ok (.bipush 6, 2) := by decide +kernel
theorem dX6_save_76 : decode cX6_save 76 = .ok (.iaload, 1) := by decide +kernel
theorem dX6_save_77 : decode cX6_save 77 = .ok (.imul, 1) := by decide +kernel
theorem dX6_save_78 : decode cX6_save 78 = .ok (.iadd, 1) := by decide +kernel
theorem dX6_save_79 : decode cX6_save 79 = .ok (.iload_n 1, 1) := by decide +kernel
theorem dX6_save_80 : decode cX6_save 80 = .ok (.iadd, 1) := by decide +kernel
theorem dX6_save_81 : decode cX6_save 81 = .ok (.aload_n 0, 1) := by decide +kernel
theorem dX6_save_82 : decode cX6_save 82 = .ok (.getfield 7, 3) := by decide +kernel
theorem dX6_save_85 : decode cX6_save 85 = .ok (.bipush 7, 2) := by decide +kernel
theorem dX6_save_87 : decode cX6_save 87 = .ok (.iload_n 1, 1) := by decide +kernel
theorem dX6_save_88 : decode cX6_save 88 = .ok (.iadd, 1) := by decide +kernel
theorem dX6_save_89 : decode cX6_save 89 = .ok (.iaload, 1) := by decide +kernel
theorem dX6_save_90 : decode cX6_save 90 = .ok (.iastore, 1) := by decide +kernel
theorem dX6_save_91 : decode cX6_save 91 = .ok (.iinc 1 1, 3) := by decide +kernel
theorem dX6_save_94 : decode cX6_save 94 = .ok (.goto (-38), 3) := by decide +kernel
theorem dX6_save_97 : decode cX6_save 97 = .ok (.aload_n 0, 1) := by decide +kernel
theorem dX6_save_98 : decode cX6_save 98 = .ok (.getfield 7, 3) := by decide +kernel
theorem dX6_save_101 : decode cX6_save 101 = .ok (.bipush 6, 2) := by decide +kernel
theorem dX6_save_103 : decode cX6_save 103 = .ok (.dup2, 1) := by decide +kernel
theorem dX6_save_104 : decode cX6_save 104 = .ok (.iaload, 1) := by decide +kernel
theorem dX6_save_105 : decode cX6_save 105 = .ok (.iconst 1, 1) := by decide +kernel
theorem dX6_save_106 : decode cX6_save 106 = .ok (.iadd, 1) := by decide +kernel
theorem dX6_save_107 : decode cX6_save 107 = .ok (.iastore, 1) := by decide +kernel
theorem dX6_save_108 : decode cX6_save 108 = .ok (.return_, 1) := by decide +kernel
theorem dX6_days_0 : decode cX6_days 0 = .ok (.iload_n 1, 1) := by decide +kernel
theorem dX6_days_1 : decode cX6_days 1 = .ok (.i2l, 1) := by decide +kernel
theorem dX6_days_2 : decode cX6_days 2 = .ok (.lconst 1, 1) := by decide +kernel
theorem dX6_days_3 : decode cX6_days 3 = .ok (.ldc2_w 102, 3) := by decide +kernel
theorem dX6_days_6 : decode cX6_days 6 = .ok (.invokestatic 56, 3) := by decide +kernel
theorem dX6_days_9 : decode cX6_days 9 = .ok (.ifCond .ne 10, 3) := by decide +kernel
theorem dX6_days_12 : decode cX6_days 12 = .ok (.aload_n 0, 1) := by decide +kernel
theorem dX6_days_13 : decode cX6_days 13 = .ok (.bipush (-2), 2) := by decide +kernel
theorem dX6_days_15 : decode cX6_days 15 = .ok (.invokevirtual 71, 3) := by decide +kernel
theorem dX6_days_18 : decode cX6_days 18 = .ok (.ireturn, 1) := by decide +kernel
theorem dX6_days_19 : decode cX6_days 19 = .ok (.aload_n 0, 1) := by decide +kernel
theorem dX6_days_20 : decode cX6_days 20 = .ok (.invokevirtual 104, 3) := by decide +kernel
theorem dX6_days_23 : decode cX6_days 23 = .ok (.aload_n 0, 1) := by decide +kernel
theorem dX6_days_24 : decode cX6_days 24 = .ok (.getfield 7, 3) := by decide +kernel
theorem dX6_days_27 : decode cX6_days 27 = .ok (.iload_n 1, 1) := by decide +kernel
theorem dX6_days_28 : decode cX6_days 28 = .ok (.invokestatic 107, 3) := by decide +kernel
theorem dX6_days_31 : decode cX6_days 31 = .ok (.aload_n 0, 1) := by decide +kernel
theorem dX6_days_32 : decode cX6_days 32 = .ok (.getfield 7, 3) := by decide +kernel
theorem dX6_days_35 : decode cX6_days 35 = .ok (.bipush 25, 2) := by decide +kernel
theorem dX6_days_37 : decode cX6_days 37 = .ok (.iaload, 1) := by decide +kernel
theorem dX6_days_38 : decode cX6_days 38 = .ok (.ireturn, 1) := by decide +kernel
theorem dX6_mayBuy_0 : decode cX6_mayBuy 0 = .ok (.aload_n 0, 1) := by decide +kernel
theorem dX6_mayBuy_1 : decode cX6_mayBuy 1 = .ok (.iload_n 2, 1) := by decide +kernel
theorem dX6_mayBuy_2 : decode cX6_mayBuy 2 = .ok (.invokestatic 95, 3) := by decide +kernel
theorem dX6_mayBuy_5 : decode cX6_mayBuy 5 = .ok (.ifCond .eq 21, 3) := by decide +kernel
theorem dX6_mayBuy_8 : decode cX6_mayBuy 8 = .ok (.aload_n 0, 1) := by decide +kernel
theorem dX6_mayBuy_9 : decode cX6_mayBuy 9 = .ok (.bipush 21, 2) := by decide +kernel
theorem dX6_mayBuy_11 : decode cX6_mayBuy 11 = .ok (.iload_n 1, 1) := by decide +kernel
theorem dX6_mayBuy_12 : decode cX6_mayBuy 12 = .ok (.iadd, 1) := by decide +kernel
theorem dX6_mayBuy_13 : decode cX6_mayBuy 13 = .ok (.iaload, 1) := by decide +kernel
theorem dX6_mayBuy_14 : decode cX6_mayBuy 14 = .ok (.aload_n 0, 1) := by decide +kernel
theorem dX6_mayBuy_15 : decode cX6_mayBuy 15 = .ok (.iload_n 2, 1) := by decide +kernel
theorem dX6_mayBuy_16 : decode cX6_mayBuy 16 = .ok (.invokestatic 111, 3) := by decide +kernel
theorem dX6_mayBuy_19 : decode cX6_mayBuy 19 = .ok (.if_icmp .lt 7, 3) := by decide +kernel
theorem dX6_mayBuy_22 : decode cX6_mayBuy 22 = .ok (.iconst 1, 1) := by decide +kernel
theorem dX6_mayBuy_23 : decode cX6_mayBuy 23 = .ok (.goto 4, 3) := by decide +kernel
theorem dX6_mayBuy_26 : decode cX6_mayBuy 26 = .ok (.iconst 0, 1) := by decide +kernel
theorem dX6_mayBuy_27 : decode cX6_mayBuy 27 = .ok (.ireturn, 1) := by decide +kernel
theorem dX6_goBuy_0 : decode cX6_goBuy 0 = .ok (.aload_n 0, 1) := by decide +kernel
theorem dX6_goBuy_1 : decode cX6_goBuy 1 = .ok (.bipush 21, 2) := by decide +kernel
theorem dX6_goBuy_3 : decode cX6_goBuy 3 = .ok (.iload_n 1, 1) := by decide +kernel
theorem dX6_goBuy_4 : decode cX6_goBuy 4 = .ok (.iadd, 1) := by decide +kernel
theorem dX6_goBuy_5 : decode cX6_goBuy 5 = .ok (.dup2, 1) := by decide +kernel
theorem dX6_goBuy_6 : decode cX6_goBuy 6 = .ok (.iaload, 1) := by decide +kernel
theorem dX6_goBuy_7 : decode cX6_goBuy 7 = .ok (.aload_n 0, 1) := by decide +kernel
theorem dX6_goBuy_8 : decode cX6_goBuy 8 = .ok (.iload_n 2, 1) := by decide +kernel
theorem dX6_goBuy_9 : decode cX6_goBuy 9 = .ok (.invokestatic 111, 3) := by decide +kernel
theorem dX6_goBuy_12 : decode cX6_goBuy 12 = .ok (.isub, 1) := by decide +kernel
theorem dX6_goBuy_13 : decode cX6_goBuy 13 = .ok (.iastore, 1) := by decide +kernel
theorem dX6_goBuy_14 : decode cX6_goBuy 14 = .ok (.aload_n 0, 1) := by decide +kernel
theorem dX6_goBuy_15 : decode cX6_goBuy 15 = .ok (.bipush 7, 2) := by decide +kernel
theorem dX6_goBuy_17 : decode cX6_goBuy 17 = .ok (.iload_n 2, 1) := by decide +kernel
theorem dX6_goBuy_18 : decode cX6_goBuy 18 = .ok (.iadd, 1) := by decide +kernel
theorem dX6_goBuy_19 : decode cX6_goBuy 19 = .ok (.iconst 1, 1) := by decide +kernel
theorem dX6_goBuy_20 : decode cX6_goBuy 20 = .ok (.iload_n 1, 1) := by decide +kernel
theorem dX6_goBuy_21 : decode cX6_goBuy 21 = .ok (.iadd, 1) := by decide +kernel
theorem dX6_goBuy_22 : decode cX6_goBuy 22 = .ok (.iastore, 1) := by decide +kernel
theorem dX6_goBuy_23 : decode cX6_goBuy 23 = .ok (.return_, 1) := by decide +kernel
theorem dX6_goKeep_0 : decode cX6_goKeep 0 = .ok (.aload_n 0, 1) := by decide +kernel
theorem dX6_goKeep_1 : decode cX6_goKeep 1 = .ok (.bipush 24, 2) := by decide +kernel
theorem dX6_goKeep_3 : decode cX6_goKeep 3 = .ok (.dup2, 1) := by decide +kernel
theorem dX6_goKeep_4 : decode cX6_goKeep 4 = .ok (.iaload, 1) := by decide +kernel
theorem dX6_goKeep_5 : decode cX6_goKeep 5 = .ok (.aload_n 0, 1) := by decide +kernel
theorem dX6_goKeep_6 : decode cX6_goKeep 6 = .ok (.iload_n 1, 1) := by decide +kernel
theorem dX6_goKeep_7 : decode cX6_goKeep 7 = .ok (.iload_n 2, 1) := by decide +kernel
theorem dX6_goKeep_8 : decode cX6_goKeep 8 = .ok (.invokestatic 114, 3) := by decide +kernel
theorem dX6_goKeep_11 : decode cX6_goKeep 11 = .ok (.iadd, 1) := by decide +kernel
theorem dX6_goKeep_12 : decode cX6_goKeep 12 = .ok (.iastore, 1) := by decide +kernel
theorem dX6_goKeep_13 : decode cX6_goKeep 13 = .ok (.aload_n 0, 1) := by decide +kernel
theorem dX6_goKeep_14 : decode cX6_goKeep 14 = .ok (.bipush 7, 2) := by decide +kernel
theorem dX6_goKeep_16 : decode cX6_goKeep 16 = .ok (.iload_n 1, 1) := by decide +kernel
theorem dX6_goKeep_17 : decode cX6_goKeep 17 = .ok (.iadd, 1) := by decide +kernel
theorem dX6_goKeep_18 : decode cX6_goKeep 18 = .ok (.bipush 10, 2) := by decide +kernel
theorem dX6_goKeep_20 : decode cX6_goKeep 20 = .ok (.iload_n 2, 1) := by decide +kernel
theorem dX6_goKeep_21 : decode cX6_goKeep 21 = .ok (.iadd, 1) := by decide +kernel
theorem dX6_goKeep_22 : decode cX6_goKeep 22 = .ok (.iastore, 1) := by decide +kernel
theorem dX6_goKeep_23 : decode cX6_goKeep 23 = .ok (.return_, 1) := by decide +kernel
theorem dX6_buys_0 : decode cX6_buys 0 = .ok (.aload_n 0, 1) := by decide +kernel
theorem dX6_buys_1 : decode cX6_buys 1 = .ok (.iload_n 1, 1) := by decide +kernel
theorem dX6_buys_2 : decode cX6_buys 2 = .ok (.invokevirtual 118, 3) := by decide +kernel
theorem dX6_buys_5 : decode cX6_buys 5 = .ok (.ifCond .eq 11, 3) := by decide +kernel
theorem dX6_buys_8 : decode cX6_buys 8 = .ok (.aload_n 0, 1) := by decide +kernel
theorem dX6_buys_9 : decode cX6_buys 9 = .ok (.iload_n 2, 1) := by decide +kernel
theorem dX6_buys_10 : decode cX6_buys 10 = .ok (.invokevirtual 121, 3) := by decide +kernel
theorem dX6_buys_13 : decode cX6_buys 13 = .ok (.ifCond .ne 10, 3) := by decide +kernel
theorem dX6_buys_16 : decode cX6_buys 16 = .ok (.aload_n 0, 1) := by decide +kernel
theorem dX6_buys_17 : decode cX6_buys 17 = .ok (.bipush (-2), 2) := by decide +kernel
theorem dX6_buys_19 : decode cX6_buys 19 = .ok (.invokevirtual 71, 3) := by decide +kernel
theorem dX6_buys_22 : decode cX6_buys 22 = .ok (.ireturn, 1) := by decide +kernel
theorem dX6_buys_23 : decode cX6_buys 23 = .ok (.aload_n 0, 1) := by decide +kernel
theorem dX6_buys_24 : decode cX6_buys 24 = .ok (.getfield 7, 3) := by decide +kernel
theorem dX6_buys_27 : decode cX6_buys 27 = .ok (.iload_n 1, 1) := by decide +kernel
theorem dX6_buys_28 : decode cX6_buys 28 = .ok (.iload_n 2, 1) := by decide +kernel
theorem dX6_buys_29 : decode cX6_buys 29 = .ok (.invokestatic 124, 3) := by decide +kernel
theorem dX6_buys_32 : decode cX6_buys 32 = .ok (.ifCond .ne 8, 3) := by decide +kernel
theorem dX6_buys_35 : decode cX6_buys 35 = .ok (.aload_n 0, 1) := by decide +kernel
theorem dX6_buys_36 : decode cX6_buys 36 = .ok (.invokevirtual 128, 3) := by decide +kernel
theorem dX6_buys_39 : decode cX6_buys 39 = .ok (.ireturn, 1) := by decide +kernel
theorem dX6_buys_40 : decode cX6_buys 40 = .ok (.aload_n 0, 1) := by decide +kernel
theorem dX6_buys_41 : decode cX6_buys 41 = .ok (.invokevirtual 104, 3) := by decide +kernel
theorem dX6_buys_44 : decode cX6_buys 44 = .ok (.aload_n 0, 1) := by decide +kernel
theorem dX6_buys_45 : decode cX6_buys 45 = .ok (.getfield 7, 3) := by decide +kernel
theorem dX6_buys_48 : decode cX6_buys 48 = .ok (.iload_n 1, 1) := by decide +kernel
theorem dX6_buys_49 : decode cX6_buys 49 = .ok (.iload_n 2, 1) := by decide +kernel
theorem dX6_buys_50 : decode cX6_buys 50 = .ok (.invokestatic 131, 3) := by decide +kernel
theorem dX6_buys_53 : decode cX6_buys 53 = .ok (.aload_n 0, 1) := by decide +kernel
theorem dX6_buys_54 : decode cX6_buys 54 = .ok (.getfield 7, 3) := by decide +kernel
theorem dX6_buys_57 : decode cX6_buys 57 = .ok (.bipush 21, 2) := by decide +kernel
theorem dX6_buys_59 : decode cX6_buys 59 = .ok (.iload_n 1, 1) := by decide +kernel
theorem dX6_buys_60 : decode cX6_buys 60 = .ok (.iadd, 1) := by decide +kernel
theorem dX6_buys_61 : decode cX6_buys 61 = .ok (.iaload, 1) := by decide +kernel
theorem dX6_buys_62 : decode cX6_buys 62 = .ok (.ireturn, 1) := by decide +kernel
theorem dX6_keeps_0 : decode cX6_keeps 0 = .ok (.aload_n 0, 1) := by decide +kernel
theorem dX6_keeps_1 : decode cX6_keeps 1 = .ok (.iload_n 1, 1) := by decide +kernel
theorem dX6_keeps_2 : decode cX6_keeps 2 = .ok (.invokevirtual 121, 3) := by decide +kernel
theorem dX6_keeps_5 : decode cX6_keeps 5 = .ok (.ifCond .eq 11, 3) := by decide +kernel
theorem dX6_keeps_8 : decode cX6_keeps 8 = .ok (.aload_n 0, 1) := by decide +kernel
theorem dX6_keeps_9 : decode cX6_keeps 9 = .ok (.iload_n 2, 1) := by decide +kernel
theorem dX6_keeps_10 : decode cX6_keeps 10 = .ok (.invokevirtual 134, 3) := by decide +kernel
theorem dX6_keeps_13 : decode cX6_keeps 13 = .ok (.ifCond .ne 10, 3) := by decide +kernel
theorem dX6_keeps_16 : decode cX6_keeps 16 = .ok (.aload_n 0, 1) := by decide +kernel
theorem dX6_keeps_17 : decode cX6_keeps 17 = .ok (.bipush (-2), 2) := by decide +kernel
theorem dX6_keeps_19 : decode cX6_keeps 19 = .ok (.invokevirtual 71, 3) := by decide +kernel
theorem dX6_keeps_22 : decode cX6_keeps 22 = .ok (.ireturn, 1) := by decide +kernel
theorem dX6_keeps_23 : decode cX6_keeps 23 = .ok (.aload_n 0, 1) := by decide +kernel
theorem dX6_keeps_24 : decode cX6_keeps 24 = .ok (.getfield 7, 3) := by decide +kernel
theorem dX6_keeps_27 : decode cX6_keeps 27 = .ok (.iload_n 1, 1) := by decide +kernel
theorem dX6_keeps_28 : decode cX6_keeps 28 = .ok (.invokestatic 137, 3) := by decide +kernel
theorem dX6_keeps_31 : decode cX6_keeps 31 = .ok (.ifCond .ne 8, 3) := by decide +kernel
theorem dX6_keeps_34 : decode cX6_keeps 34 = .ok (.aload_n 0, 1) := by decide +kernel
theorem dX6_keeps_35 : decode cX6_keeps 35 = .ok (.invokevirtual 128, 3) := by decide +kernel
theorem dX6_keeps_38 : decode cX6_keeps 38 = .ok (.ireturn, 1) := by decide +kernel
theorem dX6_keeps_39 : decode cX6_keeps 39 = .ok (.aload_n 0, 1) := by decide +kernel
theorem dX6_keeps_40 : decode cX6_keeps 40 = .ok (.invokevirtual 104, 3) := by decide +kernel
theorem dX6_keeps_43 : decode cX6_keeps 43 = .ok (.aload_n 0, 1) := by decide +kernel
theorem dX6_keeps_44 : decode cX6_keeps 44 = .ok (.getfield 7, 3) := by decide +kernel
theorem dX6_keeps_47 : decode cX6_keeps 47 = .ok (.iload_n 1, 1) := by decide +kernel
theorem dX6_keeps_48 : decode cX6_keeps 48 = .ok (.iload_n 2, 1) := by decide +kernel
theorem dX6_keeps_49 : decode cX6_keeps 49 = .ok (.invokestatic 140, 3) := by decide +kernel
theorem dX6_keeps_52 : decode cX6_keeps 52 = .ok (.aload_n 0, 1) := by decide +kernel
theorem dX6_keeps_53 : decode cX6_keeps 53 = .ok (.getfield 7, 3) := by decide +kernel
theorem dX6_keeps_56 : decode cX6_keeps 56 = .ok (.iload_n 1, 1) := by decide +kernel
theorem dX6_keeps_57 : decode cX6_keeps 57 = .ok (.iload_n 2, 1) := by decide +kernel
theorem dX6_keeps_58 : decode cX6_keeps 58 = .ok (.invokestatic 114, 3) := by decide +kernel
theorem dX6_keeps_61 : decode cX6_keeps 61 = .ok (.ireturn, 1) := by decide +kernel
theorem dX6_undo_0 : decode cX6_undo 0 = .ok (.aload_n 0, 1) := by decide +kernel
theorem dX6_undo_1 : decode cX6_undo 1 = .ok (.getfield 7, 3) := by decide +kernel
theorem dX6_undo_4 : decode cX6_undo 4 = .ok (.bipush 6, 2) := by decide +kernel
theorem dX6_undo_6 : decode cX6_undo 6 = .ok (.iaload, 1) := by decide +kernel
theorem dX6_undo_7 : decode cX6_undo 7 = .ok (.ifCond .ne 8, 3) := by decide +kernel
theorem dX6_undo_10 : decode cX6_undo 10 = .ok (.aload_n 0, 1) := by decide +kernel
theorem dX6_undo_11 : decode cX6_undo 11 = .ok (.invokevirtual 128, 3) := by decide +kernel
theorem dX6_undo_14 : decode cX6_undo 14 = .ok (.ireturn, 1) := by decide +kernel
theorem dX6_undo_15 : decode cX6_undo 15 = .ok (.aload_n 0, 1) := by decide +kernel
theorem dX6_undo_16 : decode cX6_undo 16 = .ok (.getfield 7, 3) := by decide +kernel
theorem dX6_undo_19 : decode cX6_undo 19 = .ok (.bipush 6, 2) := by decide +kernel
theorem dX6_undo_21 : decode cX6_undo 21 = .ok (.dup2, 1) := by decide +kernel
theorem dX6_undo_22 : decode cX6_undo 22 = .ok (.iaload, 1) := by decide +kernel
theorem dX6_undo_23 : decode cX6_undo 23 = .ok (.iconst 1, 1) := by decide +kernel
theorem dX6_undo_24 : decode cX6_undo 24 = .ok (.isub, 1) := by decide +kernel
theorem dX6_undo_25 : decode cX6_undo 25 = .ok (.iastore, 1) := by decide +kernel
theorem dX6_undo_26 : decode cX6_undo 26 = .ok (.iconst 0, 1) := by decide +kernel
theorem dX6_undo_27 : decode cX6_undo 27 = .ok (.istore_n 1, 1) := by decide +kernel
theorem dX6_undo_28 : decode cX6_undo 28 = .ok (.iload_n 1, 1) := by decide +kernel
theorem dX6_undo_29 : decode cX6_undo 29 = .ok (.bipush 19, 2) := by decide +kernel
theorem dX6_undo_31 : decode cX6_undo 31 = .ok (.if_icmp .ge 38, 3) := by decide +kernel
theorem dX6_undo_34 : decode cX6_undo 34 = .ok (.aload_n 0, 1) := by decide +kernel
theorem dX6_undo_35 : decode cX6_undo 35 = .ok (.getfield 7, 3) := by decide +kernel
theorem dX6_undo_38 : decode cX6_undo 38 = .ok (.bipush 7, 2) := by decide +kernel
theorem dX6_undo_40 : decode cX6_undo 40 = .ok (.iload_n 1, 1) := by decide +kernel
theorem dX6_undo_41 : decode cX6_undo 41 = .ok (.iadd, 1) := by decide +kernel
theorem dX6_undo_42 : decode cX6_undo 42 = .ok (.aload_n 0, 1) := by decide +kernel
theorem dX6_undo_43 : decode cX6_undo 43 = .ok (.getfield 7, 3) := by decide +kernel
theorem dX6_undo_46 : decode cX6_undo 46 = .ok (.bipush 106, 2) := by decide +kernel
theorem dX6_undo_48 : decode cX6_undo 48 = .ok (.bipush 19, 2) := by decide +kernel
theorem dX6_undo_50 : decode cX6_undo 50 = .ok (.aload_n 0, 1) := by decide +kernel
theorem dX6_undo_51 : decode cX6_undo 51 = .ok (.getfield 7, 3) := by decide +kernel
theorem dX6_undo_54 : decode cX6_undo 54 = .ok (.bipush 6, 2) := by decide +kernel
theorem dX6_undo_56 : decode cX6_undo 56 = .ok (.iaload, 1) := by decide +kernel
theorem dX6_undo_57 : decode cX6_undo 57 = .ok (.imul, 1) := by decide +kernel
theorem dX6_undo_58 : decode cX6_undo 58 = .ok (.iadd, 1) := by decide +kernel
theorem dX6_undo_59 : decode cX6_undo 59 = .ok (.iload_n 1, 1) := by decide +kernel
theorem dX6_undo_60 : decode cX6_undo 60 = .ok (.iadd, 1) := by decide +kernel
theorem dX6_undo_61 : decode cX6_undo 61 = .ok (.iaload, 1) := by decide +kernel
theorem dX6_undo_62 : decode cX6_undo 62 = .ok (.iastore, 1) := by decide +kernel
theorem dX6_undo_63 : decode cX6_undo 63 = .ok (.iinc 1 1, 3) := by decide +kernel
theorem dX6_undo_66 : decode cX6_undo 66 = .ok (.goto (-38), 3) := by decide +kernel
theorem dX6_undo_69 : decode cX6_undo 69 = .ok (.aload_n 0, 1) := by decide +kernel
theorem dX6_undo_70 : decode cX6_undo 70 = .ok (.getfield 7, 3) := by decide +kernel
theorem dX6_undo_73 : decode cX6_undo 73 = .ok (.bipush 25, 2) := by decide +kernel
theorem dX6_undo_75 : decode cX6_undo 75 = .ok (.iaload, 1) := by decide +kernel
theorem dX6_undo_76 : decode cX6_undo 76 = .ok (.ireturn, 1) := by decide +kernel
theorem dX6_toldOf_0 : decode cX6_toldOf 0 = .ok (.iload_n 2, 1) := by decide +kernel
theorem dX6_toldOf_1 : decode cX6_toldOf 1 = .ok (.tableswitch 84 0 4 #[35, 45, 55, 65, 75], 35) := by decide +kernel
theorem dX6_toldOf_36 : decode cX6_toldOf 36 = .ok (.aload_n 0, 1) := by decide +kernel
theorem dX6_toldOf_37 : decode cX6_toldOf 37 = .ok (.getfield 7, 3) := by decide +kernel
theorem dX6_toldOf_40 : decode cX6_toldOf 40 = .ok (.bipush 26, 2) := by decide +kernel
theorem dX6_toldOf_42 : decode cX6_toldOf 42 = .ok (.iload_n 1, 1) := by decide +kernel
theorem dX6_toldOf_43 : decode cX6_toldOf 43 = .ok (.iadd, 1) := by decide +kernel
theorem dX6_toldOf_44 : decode cX6_toldOf 44 = .ok (.iaload, 1) := by decide +kernel
theorem dX6_toldOf_45 : decode cX6_toldOf 45 = .ok (.ireturn, 1) := by decide +kernel
theorem dX6_toldOf_46 : decode cX6_toldOf 46 = .ok (.aload_n 0, 1) := by decide +kernel
theorem dX6_toldOf_47 : decode cX6_toldOf 47 = .ok (.getfield 7, 3) := by decide +kernel
theorem dX6_toldOf_50 : decode cX6_toldOf 50 = .ok (.bipush 33, 2) := by decide +kernel
theorem dX6_toldOf_52 : decode cX6_toldOf 52 = .ok (.iload_n 1, 1) := by decide +kernel
theorem dX6_toldOf_53 : decode cX6_toldOf 53 = .ok (.iadd, 1) := by decide +kernel
theorem dX6_toldOf_54 : decode cX6_toldOf 54 = .ok (.iaload, 1) := by decide +kernel
theorem dX6_toldOf_55 : decode cX6_toldOf 55 = .ok (.ireturn, 1) := by decide +kernel
theorem dX6_toldOf_56 : decode cX6_toldOf 56 = .ok (.aload_n 0, 1) := by decide +kernel
theorem dX6_toldOf_57 : decode cX6_toldOf 57 = .ok (.getfield 7, 3) := by decide +kernel
theorem dX6_toldOf_60 : decode cX6_toldOf 60 = .ok (.bipush 14, 2) := by decide +kernel
theorem dX6_toldOf_62 : decode cX6_toldOf 62 = .ok (.iload_n 1, 1) := by decide +kernel
theorem dX6_toldOf_63 : decode cX6_toldOf 63 = .ok (.iadd, 1) := by decide +kernel
theorem dX6_toldOf_64 : decode cX6_toldOf 64 = .ok (.iaload, 1) := by decide +kernel
theorem dX6_toldOf_65 : decode cX6_toldOf 65 = .ok (.ireturn, 1) := by decide +kernel
theorem dX6_toldOf_66 : decode cX6_toldOf 66 = .ok (.aload_n 0, 1) := by decide +kernel
theorem dX6_toldOf_67 : decode cX6_toldOf 67 = .ok (.getfield 7, 3) := by decide +kernel
theorem dX6_toldOf_70 : decode cX6_toldOf 70 = .ok (.bipush 7, 2) := by decide +kernel
theorem dX6_toldOf_72 : decode cX6_toldOf 72 = .ok (.iload_n 1, 1) := by decide +kernel
theorem dX6_toldOf_73 : decode cX6_toldOf 73 = .ok (.iadd, 1) := by decide +kernel
theorem dX6_toldOf_74 : decode cX6_toldOf 74 = .ok (.iaload, 1) := by decide +kernel
theorem dX6_toldOf_75 : decode cX6_toldOf 75 = .ok (.ireturn, 1) := by decide +kernel
theorem dX6_toldOf_76 : decode cX6_toldOf 76 = .ok (.aload_n 0, 1) := by decide +kernel
theorem dX6_toldOf_77 : decode cX6_toldOf 77 = .ok (.getfield 7, 3) := by decide +kernel
theorem dX6_toldOf_80 : decode cX6_toldOf 80 = .ok (.iload_n 1, 1) := by decide +kernel
theorem dX6_toldOf_81 : decode cX6_toldOf 81 = .ok (.invokestatic 88, 3) := by decide +kernel
theorem dX6_toldOf_84 : decode cX6_toldOf 84 = .ok (.ireturn, 1) := by decide +kernel
theorem dX6_toldOf_85 : decode cX6_toldOf 85 = .ok (.aload_n 0, 1) := by decide +kernel
theorem dX6_toldOf_86 : decode cX6_toldOf 86 = .ok (.getfield 7, 3) := by decide +kernel
theorem dX6_toldOf_89 : decode cX6_toldOf 89 = .ok (.iload_n 1, 1) := by decide +kernel
theorem dX6_toldOf_90 : decode cX6_toldOf 90 = .ok (.invokestatic 111, 3) := by decide +kernel
theorem dX6_toldOf_93 : decode cX6_toldOf 93 = .ok (.ireturn, 1) := by decide +kernel
theorem dX6_of_0 : decode cX6_of 0 = .ok (.aload_n 0, 1) := by decide +kernel
theorem dX6_of_1 : decode cX6_of 1 = .ok (.iload_n 1, 1) := by decide +kernel
theorem dX6_of_2 : decode cX6_of 2 = .ok (.invokevirtual 121, 3) := by decide +kernel
theorem dX6_of_5 : decode cX6_of 5 = .ok (.ifCond .eq 24, 3) := by decide +kernel
theorem dX6_of_8 : decode cX6_of 8 = .ok (.iload_n 2, 1) := by decide +kernel
theorem dX6_of_9 : decode cX6_of 9 = .ok (.i2l, 1) := by decide +kernel
theorem dX6_of_10 : decode cX6_of 10 = .ok (.lconst 0, 1) := by decide +kernel
theorem dX6_of_11 : decode cX6_of 11 = .ok (.ldc2_w 60, 3) := by decide +kernel
theorem dX6_of_14 : decode cX6_of 14 = .ok (.invokestatic 56, 3) := by decide +kernel
theorem dX6_of_17 : decode cX6_of 17 = .ok (.ifCond .eq 12, 3) := by decide +kernel
theorem dX6_of_20 : decode cX6_of 20 = .ok (.aload_n 0, 1) := by decide +kernel
theorem dX6_of_21 : decode cX6_of 21 = .ok (.iload_n 1, 1) := by decide +kernel
theorem dX6_of_22 : decode cX6_of 22 = .ok (.iload_n 2, 1) := by decide +kernel
theorem dX6_of_23 : decode cX6_of 23 = .ok (.invokevirtual 143, 3) := by decide +kernel
theorem dX6_of_26 : decode cX6_of 26 = .ok (.goto 9, 3) := by decide +kernel
theorem dX6_of_29 : decode cX6_of 29 = .ok (.aload_n 0, 1) := by decide +kernel
theorem dX6_of_30 : decode cX6_of 30 = .ok (.bipush (-2), 2) := by decide +kernel
theorem dX6_of_32 : decode cX6_of 32 = .ok (.invokevirtual 71, 3) := by decide +kernel
theorem dX6_of_35 : decode cX6_of 35 = .ok (.ireturn, 1) := by decide +kernel
theorem dX6_allIn_0 : decode cX6_allIn 0 = .ok (.iconst 0, 1) := by decide +kernel
theorem dX6_allIn_1 : decode cX6_allIn 1 = .ok (.istore_n 2, 1) := by decide +kernel
theorem dX6_allIn_2 : decode cX6_allIn 2 = .ok (.iconst 0, 1) := by decide +kernel
theorem dX6_allIn_3 : decode cX6_allIn 3 = .ok (.istore_n 3, 1) := by decide +kernel
theorem dX6_allIn_4 : decode cX6_allIn 4 = .ok (.iload_n 3, 1) := by decide +kernel
theorem dX6_allIn_5 : decode cX6_allIn 5 = .ok (.aload_n 0, 1) := by decide +kernel
theorem dX6_allIn_6 : decode cX6_allIn 6 = .ok (.invokevirtual 52, 3) := by decide +kernel
theorem dX6_allIn_9 : decode cX6_allIn 9 = .ok (.if_icmp .ge 32, 3) := by decide +kernel
theorem dX6_allIn_12 : decode cX6_allIn 12 = .ok (.iload_n 2, 1) := by decide +kernel
theorem dX6_allIn_13 : decode cX6_allIn 13 = .ok (.aload_n 0, 1) := by decide +kernel
theorem dX6_allIn_14 : decode cX6_allIn 14 = .ok (.getfield 7, 3) := by decide +kernel
theorem dX6_allIn_17 : decode cX6_allIn 17 = .ok (.bipush 7, 2) := by decide +kernel
theorem dX6_allIn_19 : decode cX6_allIn 19 = .ok (.iload_n 3, 1) := by decide +kernel
theorem dX6_allIn_20 : decode cX6_allIn 20 = .ok (.iadd, 1) := by decide +kernel
theorem dX6_allIn_21 : decode cX6_allIn 21 = .ok (.iaload, 1) := by decide +kernel
theorem dX6_allIn_22 : decode cX6_allIn 22 = .ok (.iload_n 1, 1) := by decide +kernel
theorem dX6_allIn_23 : decode cX6_allIn 23 = .ok (.if_icmp .ne 9, 3) := by decide +kernel
theorem dX6_allIn_26 : decode cX6_allIn 26 = .ok (.iconst 1, 1) := by decide +kernel
theorem dX6_allIn_27 : decode cX6_allIn 27 = .ok (.iload_n 3, 1) := by decide +kernel
theorem dX6_allIn_28 : decode cX6_allIn 28 = .ok (.ishl, 1) := by decide +kernel
theorem dX6_allIn_29 : decode cX6_allIn 29 = .ok (.goto 4, 3) := by decide +kernel
theorem dX6_allIn_32 : decode cX6_allIn 32 = .ok (.iconst 0, 1) := by decide +kernel
theorem dX6_allIn_33 : decode cX6_allIn 33 = .ok (.ior, 1) := by decide +kernel
theorem dX6_allIn_34 : decode cX6_allIn 34 = .ok (.istore_n 2, 1) := by decide +kernel
theorem dX6_allIn_35 : decode cX6_allIn 35 = .ok (.iinc 3 1, 3) := by decide +kernel
theorem dX6_allIn_38 : decode cX6_allIn 38 = .ok (.goto (-34), 3) := by decide +kernel
theorem dX6_allIn_41 : decode cX6_allIn 41 = .ok (.iload_n 2, 1) := by decide +kernel
theorem dX6_allIn_42 : decode cX6_allIn 42 = .ok (.ireturn, 1) := by decide +kernel
theorem dX6_about_0 : decode cX6_about 0 = .ok (.aload_n 0, 1) := by decide +kernel
theorem dX6_about_1 : decode cX6_about 1 = .ok (.iload_n 1, 1) := by decide +kernel
theorem dX6_about_2 : decode cX6_about 2 = .ok (.invokevirtual 134, 3) := by decide +kernel
theorem dX6_about_5 : decode cX6_about 5 = .ok (.ifCond .eq 15, 3) := by decide +kernel
theorem dX6_about_8 : decode cX6_about 8 = .ok (.iload_n 2, 1) := by decide +kernel
theorem dX6_about_9 : decode cX6_about 9 = .ok (.i2l, 1) := by decide +kernel
theorem dX6_about_10 : decode cX6_about 10 = .ok (.lconst 0, 1) := by decide +kernel
theorem dX6_about_11 : decode cX6_about 11 = .ok (.ldc2_w 147, 3) := by decide +kernel
theorem dX6_about_14 : decode cX6_about 14 = .ok (.invokestatic 56, 3) := by decide +kernel
theorem dX6_about_17 : decode cX6_about 17 = .ok (.ifCond .ne 10, 3) := by decide +kernel
theorem dX6_about_20 : decode cX6_about 20 = .ok (.aload_n 0, 1) := by decide +kernel
theorem dX6_about_21 : decode cX6_about 21 = .ok (.bipush (-2), 2) := by decide +kernel
theorem dX6_about_23 : decode cX6_about 23 = .ok (.invokevirtual 71, 3) := by decide +kernel
theorem dX6_about_26 : decode cX6_about 26 = .ok (.ireturn, 1) := by decide +kernel
theorem dX6_about_27 : decode cX6_about 27 = .ok (.iload_n 2, 1) := by decide +kernel
theorem dX6_about_28 : decode cX6_about 28 = .ok (.ifCond .ne 15, 3) := by decide +kernel
theorem dX6_about_31 : decode cX6_about 31 = .ok (.aload_n 0, 1) := by decide +kernel
theorem dX6_about_32 : decode cX6_about 32 = .ok (.getfield 7, 3) := by decide +kernel
theorem dX6_about_35 : decode cX6_about 35 = .ok (.bipush 40, 2) := by decide +kernel
theorem dX6_about_37 : decode cX6_about 37 = .ok (.iload_n 1, 1) := by decide +kernel
theorem dX6_about_38 : decode cX6_about 38 = .ok (.iadd, 1) := by decide +kernel
theorem dX6_about_39 : decode cX6_about 39 = .ok (.iaload, 1) := by decide +kernel
theorem dX6_about_40 : decode cX6_about 40 = .ok (.goto 28, 3) := by decide +kernel
theorem dX6_about_43 : decode cX6_about 43 = .ok (.iload_n 2, 1) := by decide +kernel
theorem dX6_about_44 : decode cX6_about 44 = .ok (.iconst 1, 1) := by decide +kernel
theorem dX6_about_45 : decode cX6_about 45 = .ok (.if_icmp .ne 15, 3) := by decide +kernel
theorem dX6_about_48 : decode cX6_about 48 = .ok (.aload_n 0, 1) := by decide +kernel
theorem dX6_about_49 : decode cX6_about 49 = .ok (.getfield 7, 3) := by decide +kernel
theorem dX6_about_52 : decode cX6_about 52 = .ok (.bipush 44, 2) := by decide +kernel
theorem dX6_about_54 : decode cX6_about 54 = .ok (.iload_n 1, 1) := by decide +kernel
theorem dX6_about_55 : decode cX6_about 55 = .ok (.iadd, 1) := by decide +kernel
theorem dX6_about_56 : decode cX6_about 56 = .ok (.iaload, 1) := by decide +kernel
theorem dX6_about_57 : decode cX6_about 57 = .ok (.goto 11, 3) := by decide +kernel
theorem dX6_about_60 : decode cX6_about 60 = .ok (.aload_n 0, 1) := by decide +kernel
theorem dX6_about_61 : decode cX6_about 61 = .ok (.bipush 10, 2) := by decide +kernel
theorem dX6_about_63 : decode cX6_about 63 = .ok (.iload_n 1, 1) := by decide +kernel
theorem dX6_about_64 : decode cX6_about 64 = .ok (.iadd, 1) := by decide +kernel
theorem dX6_about_65 : decode cX6_about 65 = .ok (.invokevirtual 149, 3) := by decide +kernel
theorem dX6_about_68 : decode cX6_about 68 = .ok (.ireturn, 1) := by decide +kernel
theorem dX6_purse_0 : decode cX6_purse 0 = .ok (.aload_n 0, 1) := by decide +kernel
theorem dX6_purse_1 : decode cX6_purse 1 = .ok (.iload_n 1, 1) := by decide +kernel
theorem dX6_purse_2 : decode cX6_purse 2 = .ok (.invokevirtual 118, 3) := by decide +kernel
theorem dX6_purse_5 : decode cX6_purse 5 = .ok (.ifCond .eq 13, 3) := by decide +kernel
theorem dX6_purse_8 : decode cX6_purse 8 = .ok (.iload_n 2, 1) := by decide +kernel
theorem dX6_purse_9 : decode cX6_purse 9 = .ok (.i2l, 1) := by decide +kernel
theorem dX6_purse_10 : decode cX6_purse 10 = .ok (.lconst 0, 1) := by decide +kernel
theorem dX6_purse_11 : decode cX6_purse 11 = .ok (.lconst 1, 1) := by decide +kernel
theorem dX6_purse_12 : decode cX6_purse 12 = .ok (.invokestatic 56, 3) := by decide +kernel
theorem dX6_purse_15 : decode cX6_purse 15 = .ok (.ifCond .ne 10, 3) := by decide +kernel
theorem dX6_purse_18 : decode cX6_purse 18 = .ok (.aload_n 0, 1) := by decide +kernel
theorem dX6_purse_19 : decode cX6_purse 19 = .ok (.bipush (-2), 2) := by decide +kernel
theorem dX6_purse_21 : decode cX6_purse 21 = .ok (.invokevirtual 71, 3) := by decide +kernel
theorem dX6_purse_24 : decode cX6_purse 24 = .ok (.ireturn, 1) := by decide +kernel
theorem dX6_purse_25 : decode cX6_purse 25 = .ok (.iload_n 2, 1) := by decide +kernel
theorem dX6_purse_26 : decode cX6_purse 26 = .ok (.ifCond .ne 15, 3) := by decide +kernel
theorem dX6_purse_29 : decode cX6_purse 29 = .ok (.aload_n 0, 1) := by decide +kernel
theorem dX6_purse_30 : decode cX6_purse 30 = .ok (.getfield 7, 3) := by decide +kernel
theorem dX6_purse_33 : decode cX6_purse 33 = .ok (.bipush 21, 2) := by decide +kernel
theorem dX6_purse_35 : decode cX6_purse 35 = .ok (.iload_n 1, 1) := by decide +kernel
theorem dX6_purse_36 : decode cX6_purse 36 = .ok (.iadd, 1) := by decide +kernel
theorem dX6_purse_37 : decode cX6_purse 37 = .ok (.iaload, 1) := by decide +kernel
theorem dX6_purse_38 : decode cX6_purse 38 = .ok (.goto 10, 3) := by decide +kernel
theorem dX6_purse_41 : decode cX6_purse 41 = .ok (.aload_n 0, 1) := by decide +kernel
theorem dX6_purse_42 : decode cX6_purse 42 = .ok (.iconst 1, 1) := by decide +kernel
theorem dX6_purse_43 : decode cX6_purse 43 = .ok (.iload_n 1, 1) := by decide +kernel
theorem dX6_purse_44 : decode cX6_purse 44 = .ok (.iadd, 1) := by decide +kernel
theorem dX6_purse_45 : decode cX6_purse 45 = .ok (.invokevirtual 149, 3) := by decide +kernel
theorem dX6_purse_48 : decode cX6_purse 48 = .ok (.ireturn, 1) := by decide +kernel
theorem dX6_goodBehind_0 : decode cX6_goodBehind 0 = .ok (.aload_n 0, 1) := by decide +kernel
theorem dX6_goodBehind_1 : decode cX6_goodBehind 1 = .ok (.getfield 7, 3) := by decide +kernel
theorem dX6_goodBehind_4 : decode cX6_goodBehind 4 = .ok (.bipush 26, 2) := by decide +kernel
theorem dX6_goodBehind_6 : decode cX6_goodBehind 6 = .ok (.iload_n 1, 1) := by decide +kernel
theorem dX6_goodBehind_7 : decode cX6_goodBehind 7 = .ok (.iadd, 1) := by decide +kernel
theorem dX6_goodBehind_8 : decode cX6_goodBehind 8 = .ok (.iaload, 1) := by decide +kernel
theorem dX6_goodBehind_9 : decode cX6_goodBehind 9 = .ok (.aload_n 0, 1) := by decide +kernel
theorem dX6_goodBehind_10 : decode cX6_goodBehind 10 = .ok (.getfield 7, 3) := by decide +kernel
theorem dX6_goodBehind_13 : decode cX6_goodBehind 13 = .ok (.bipush 33, 2) := by decide +kernel
theorem dX6_goodBehind_15 : decode cX6_goodBehind 15 = .ok (.iload_n 1, 1) := by decide +kernel
theorem dX6_goodBehind_16 : decode cX6_goodBehind 16 = .ok (.iadd, 1) := by decide +kernel
theorem dX6_goodBehind_17 : decode cX6_goodBehind 17 = .ok (.iaload, 1) := by decide +kernel
theorem dX6_goodBehind_18 : decode cX6_goodBehind 18 = .ok (.aload_n 0, 1) := by decide +kernel
theorem dX6_goodBehind_19 : decode cX6_goodBehind 19 = .ok (.getfield 7, 3) := by decide +kernel
theorem dX6_goodBehind_22 : decode cX6_goodBehind 22 = .ok (.iload_n 1, 1) := by decide +kernel
theorem dX6_goodBehind_23 : decode cX6_goodBehind 23 = .ok (.invokestatic 95, 3) := by decide +kernel
theorem dX6_goodBehind_26 : decode cX6_goodBehind 26 = .ok (.ifCond .eq 17, 3) := by decide +kernel
theorem dX6_goodBehind_29 : decode cX6_goodBehind 29 = .ok (.aload_n 0, 1) := by decide +kernel
theorem dX6_goodBehind_30 : decode cX6_goodBehind 30 = .ok (.getfield 7, 3) := by decide +kernel
theorem dX6_goodBehind_33 : decode cX6_goodBehind 33 = .ok (.bipush 14, 2) := by decide +kernel
theorem dX6_goodBehind_35 : decode cX6_goodBehind 35 = .ok (.iload_n 1, 1) := by decide +kernel
theorem dX6_goodBehind_36 : decode cX6_goodBehind 36 = .ok (.iadd, 1) := by decide +kernel
theorem dX6_goodBehind_37 : decode cX6_goodBehind 37 = .ok (.iaload, 1) := by decide +kernel
theorem dX6_goodBehind_38 : decode cX6_goodBehind 38 = .ok (.iload_n 2, 1) := by decide +kernel
theorem dX6_goodBehind_39 : decode cX6_goodBehind 39 = .ok (.iadd, 1) := by decide +kernel
theorem dX6_goodBehind_40 : decode cX6_goodBehind 40 = .ok (.goto 12, 3) := by decide +kernel
theorem dX6_goodBehind_43 : decode cX6_goodBehind 43 = .ok (.aload_n 0, 1) := by decide +kernel
theorem dX6_goodBehind_44 : decode cX6_goodBehind 44 = .ok (.getfield 7, 3) := by decide +kernel
theorem dX6_goodBehind_47 : decode cX6_goodBehind 47 = .ok (.bipush 14, 2) := by decide +kernel
theorem dX6_goodBehind_49 : decode cX6_goodBehind 49 = .ok (.iload_n 1, 1) := by decide +kernel
theorem dX6_goodBehind_50 : decode cX6_goodBehind 50 = .ok (.iadd, 1) := by decide +kernel
theorem dX6_goodBehind_51 : decode cX6_goodBehind 51 = .ok (.iaload, 1) := by decide +kernel
theorem dX6_goodBehind_52 : decode cX6_goodBehind 52 = .ok (.invokestatic 84, 3) := by decide +kernel
theorem dX6_goodBehind_55 : decode cX6_goodBehind 55 = .ok (.ireturn, 1) := by decide +kernel
theorem dX6_good_0 : decode cX6_good 0 = .ok (.aload_n 0, 1) := by decide +kernel
theorem dX6_good_1 : decode cX6_good 1 = .ok (.iload_n 1, 1) := by decide +kernel
theorem dX6_good_2 : decode cX6_good 2 = .ok (.invokevirtual 121, 3) := by decide +kernel
theorem dX6_good_5 : decode cX6_good 5 = .ok (.ifCond .eq 24, 3) := by decide +kernel
theorem dX6_good_8 : decode cX6_good 8 = .ok (.iload_n 2, 1) := by decide +kernel
theorem dX6_good_9 : decode cX6_good 9 = .ok (.i2l, 1) := by decide +kernel
theorem dX6_good_10 : decode cX6_good 10 = .ok (.lconst 0, 1) := by decide +kernel
theorem dX6_good_11 : decode cX6_good 11 = .ok (.ldc2_w 152, 3) := by decide +kernel
theorem dX6_good_14 : decode cX6_good 14 = .ok (.invokestatic 56, 3) := by decide +kernel
theorem dX6_good_17 : decode cX6_good 17 = .ok (.ifCond .eq 12, 3) := by decide +kernel
theorem dX6_good_20 : decode cX6_good 20 = .ok (.aload_n 0, 1) := by decide +kernel
theorem dX6_good_21 : decode cX6_good 21 = .ok (.iload_n 1, 1) := by decide +kernel
theorem dX6_good_22 : decode cX6_good 22 = .ok (.iload_n 2, 1) := by decide +kernel
theorem dX6_good_23 : decode cX6_good 23 = .ok (.invokevirtual 154, 3) := by decide +kernel
theorem dX6_good_26 : decode cX6_good 26 = .ok (.goto 9, 3) := by decide +kernel
theorem dX6_good_29 : decode cX6_good 29 = .ok (.aload_n 0, 1) := by decide +kernel
theorem dX6_good_30 : decode cX6_good 30 = .ok (.bipush (-2), 2) := by decide +kernel
theorem dX6_good_32 : decode cX6_good 32 = .ok (.invokevirtual 71, 3) := by decide +kernel
theorem dX6_good_35 : decode cX6_good 35 = .ok (.ireturn, 1) := by decide +kernel
theorem dX6_joy_0 : decode cX6_joy 0 = .ok (.aload_n 0, 1) := by decide +kernel
theorem dX6_joy_1 : decode cX6_joy 1 = .ok (.iload_n 1, 1) := by decide +kernel
theorem dX6_joy_2 : decode cX6_joy 2 = .ok (.invokevirtual 121, 3) := by decide +kernel
theorem dX6_joy_5 : decode cX6_joy 5 = .ok (.ifCond .eq 23, 3) := by decide +kernel
theorem dX6_joy_8 : decode cX6_joy 8 = .ok (.aload_n 0, 1) := by decide +kernel
theorem dX6_joy_9 : decode cX6_joy 9 = .ok (.iload_n 2, 1) := by decide +kernel
theorem dX6_joy_10 : decode cX6_joy 10 = .ok (.invokevirtual 134, 3) := by decide +kernel
theorem dX6_joy_13 : decode cX6_joy 13 = .ok (.ifCond .eq 15, 3) := by decide +kernel
theorem dX6_joy_16 : decode cX6_joy 16 = .ok (.aload_n 0, 1) := by decide +kernel
theorem dX6_joy_17 : decode cX6_joy 17 = .ok (.getfield 7, 3) := by decide +kernel
theorem dX6_joy_20 : decode cX6_joy 20 = .ok (.iload_n 1, 1) := by decide +kernel
theorem dX6_joy_21 : decode cX6_joy 21 = .ok (.iload_n 2, 1) := by decide +kernel
theorem dX6_joy_22 : decode cX6_joy 22 = .ok (.invokestatic 114, 3) := by decide +kernel
theorem dX6_joy_25 : decode cX6_joy 25 = .ok (.goto 9, 3) := by decide +kernel
theorem dX6_joy_28 : decode cX6_joy 28 = .ok (.aload_n 0, 1) := by decide +kernel
theorem dX6_joy_29 : decode cX6_joy 29 = .ok (.bipush (-2), 2) := by decide +kernel
theorem dX6_joy_31 : decode cX6_joy 31 = .ok (.invokevirtual 71, 3) := by decide +kernel
theorem dX6_joy_34 : decode cX6_joy 34 = .ok (.ireturn, 1) := by decide +kernel
theorem dX6_when_0 : decode cX6_when 0 = .ok (.aload_n 0, 1) := by decide +kernel
theorem dX6_when_1 : decode cX6_when 1 = .ok (.iload_n 1, 1) := by decide +kernel
theorem dX6_when_2 : decode cX6_when 2 = .ok (.invokevirtual 121, 3) := by decide +kernel
theorem dX6_when_5 : decode cX6_when 5 = .ok (.ifCond .eq 15, 3) := by decide +kernel
theorem dX6_when_8 : decode cX6_when 8 = .ok (.iload_n 2, 1) := by decide +kernel
theorem dX6_when_9 : decode cX6_when 9 = .ok (.i2l, 1) := by decide +kernel
theorem dX6_when_10 : decode cX6_when 10 = .ok (.lconst 1, 1) := by decide +kernel
theorem dX6_when_11 : decode cX6_when 11 = .ok (.ldc2_w 157, 3) := by decide +kernel
theorem dX6_when_14 : decode cX6_when 14 = .ok (.invokestatic 56, 3) := by decide +kernel
theorem dX6_when_17 : decode cX6_when 17 = .ok (.ifCond .ne 10, 3) := by decide +kernel
theorem dX6_when_20 : decode cX6_when 20 = .ok (.aload_n 0, 1) := by decide +kernel
theorem dX6_when_21 : decode cX6_when 21 = .ok (.bipush (-2), 2) := by decide +kernel
theorem dX6_when_23 : decode cX6_when 23 = .ok (.invokevirtual 71, 3) := by decide +kernel
theorem dX6_when_26 : decode cX6_when 26 = .ok (.ireturn, 1) := by decide +kernel
theorem dX6_when_27 : decode cX6_when 27 = .ok (.iconst 0, 1) := by decide +kernel
theorem dX6_when_28 : decode cX6_when 28 = .ok (.istore_n 3, 1) := by decide +kernel
theorem dX6_when_29 : decode cX6_when 29 = .ok (.iload_n 3, 1) := by decide +kernel
theorem dX6_when_30 : decode cX6_when 30 = .ok (.bipush 60, 2) := by decide +kernel
theorem dX6_when_32 : decode cX6_when 32 = .ok (.if_icmp .gt 21, 3) := by decide +kernel
theorem dX6_when_35 : decode cX6_when 35 = .ok (.aload_n 0, 1) := by decide +kernel
theorem dX6_when_36 : decode cX6_when 36 = .ok (.iload_n 1, 1) := by decide +kernel
theorem dX6_when_37 : decode cX6_when 37 = .ok (.iload_n 3, 1) := by decide +kernel
theorem dX6_when_38 : decode cX6_when 38 = .ok (.invokevirtual 154, 3) := by decide +kernel
theorem dX6_when_41 : decode cX6_when 41 = .ok (.iload_n 2, 1) := by decide +kernel
theorem dX6_when_42 : decode cX6_when 42 = .ok (.if_icmp .lt 5, 3) := by decide +kernel
theorem dX6_when_45 : decode cX6_when 45 = .ok (.iload_n 3, 1) := by decide +kernel
theorem dX6_when_46 : decode cX6_when 46 = .ok (.ireturn, 1) := by decide +kernel
theorem dX6_when_47 : decode cX6_when 47 = .ok (.iinc 3 1, 3) := by decide +kernel
theorem dX6_when_50 : decode cX6_when 50 = .ok (.goto (-21), 3) := by decide +kernel
theorem dX6_when_53 : decode cX6_when 53 = .ok (.iconst (-1), 1) := by decide +kernel
theorem dX6_when_54 : decode cX6_when 54 = .ok (.ireturn, 1) := by decide +kernel
theorem dX6_waiting_0 : decode cX6_waiting 0 = .ok (.iconst 0, 1) := by decide +kernel
theorem dX6_waiting_1 : decode cX6_waiting 1 = .ok (.istore_n 1, 1) := by decide +kernel
theorem dX6_waiting_2 : decode cX6_waiting 2 = .ok (.iconst 0, 1) := by decide +kernel
theorem dX6_waiting_3 : decode cX6_waiting 3 = .ok (.istore_n 2, 1) := by decide +kernel
theorem dX6_waiting_4 : decode cX6_waiting 4 = .ok (.iload_n 2, 1) := by decide +kernel
theorem dX6_waiting_5 : decode cX6_waiting 5 = .ok (.aload_n 0, 1) := by decide +kernel
theorem dX6_waiting_6 : decode cX6_waiting 6 = .ok (.getfield 7, 3) := by decide +kernel
theorem dX6_waiting_9 : decode cX6_waiting 9 = .ok (.iconst 1, 1) := by decide +kernel
theorem dX6_waiting_10 : decode cX6_waiting 10 = .ok (.iaload, 1) := by decide +kernel
theorem dX6_waiting_11 : decode cX6_waiting 11 = .ok (.if_icmp .ge 30, 3) := by decide +kernel
theorem dX6_waiting_14 : decode cX6_waiting 14 = .ok (.iload_n 1, 1) := by decide +kernel
theorem dX6_waiting_15 : decode cX6_waiting 15 = .ok (.aload_n 0, 1) := by decide +kernel
theorem dX6_waiting_16 : decode cX6_waiting 16 = .ok (.bipush 10, 2) := by decide +kernel
theorem dX6_waiting_18 : decode cX6_waiting 18 = .ok (.iload_n 2, 1) := by decide +kernel
theorem dX6_waiting_19 : decode cX6_waiting 19 = .ok (.iadd, 1) := by decide +kernel
theorem dX6_waiting_20 : decode cX6_waiting 20 = .ok (.invokevirtual 149, 3) := by decide +kernel
theorem dX6_waiting_23 : decode cX6_waiting 23 = .ok (.ifCond .ne 9, 3) := by decide +kernel
theorem dX6_waiting_26 : decode cX6_waiting 26 = .ok (.iconst 1, 1) := by decide +kernel
theorem dX6_waiting_27 : decode cX6_waiting 27 = .ok (.iload_n 2, 1) := by decide +kernel
theorem dX6_waiting_28 : decode cX6_waiting 28 = .ok (.ishl, 1) := by decide +kernel
theorem dX6_waiting_29 : decode cX6_waiting 29 = .ok (.goto 4, 3) := by decide +kernel
theorem dX6_waiting_32 : decode cX6_waiting 32 = .ok (.iconst 0, 1) := by decide +kernel
theorem dX6_waiting_33 : decode cX6_waiting 33 = .ok (.ior, 1) := by decide +kernel
theorem dX6_waiting_34 : decode cX6_waiting 34 = .ok (.istore_n 1, 1) := by decide +kernel
theorem dX6_waiting_35 : decode cX6_waiting 35 = .ok (.iinc 2 1, 3) := by decide +kernel
theorem dX6_waiting_38 : decode cX6_waiting 38 = .ok (.goto (-34), 3) := by decide +kernel
theorem dX6_waiting_41 : decode cX6_waiting 41 = .ok (.iload_n 1, 1) := by decide +kernel
theorem dX6_waiting_42 : decode cX6_waiting 42 = .ok (.ireturn, 1) := by decide +kernel
theorem dX6_waits_0 : decode cX6_waits 0 = .ok (.aload_n 0, 1) := by decide +kernel
theorem dX6_waits_1 : decode cX6_waits 1 = .ok (.invokevirtual 159, 3) := by decide +kernel
theorem dX6_waits_4 : decode cX6_waits 4 = .ok (.ireturn, 1) := by decide +kernel
theorem dX6_means_0 : decode cX6_means 0 = .ok (.iload_n 1, 1) := by decide +kernel
theorem dX6_means_1 : decode cX6_means 1 = .ok (.istore_n 2, 1) := by decide +kernel
theorem dX6_means_2 : decode cX6_means 2 = .ok (.iconst 0, 1) := by decide +kernel
theorem dX6_means_3 : decode cX6_means 3 = .ok (.istore_n 3, 1) := by decide +kernel
theorem dX6_means_4 : decode cX6_means 4 = .ok (.iconst 1, 1) := by decide +kernel
theorem dX6_means_5 : decode cX6_means 5 = .ok (.istore 4, 2) := by decide +kernel
theorem dX6_means_7 : decode cX6_means 7 = .ok (.aload_n 0, 1) := by decide +kernel
theorem dX6_means_8 : decode cX6_means 8 = .ok (.getfield 7, 3) := by decide +kernel
theorem dX6_means_11 : decode cX6_means 11 = .ok (.iconst 1, 1) := by decide +kernel
theorem dX6_means_12 : decode cX6_means 12 = .ok (.iaload, 1) := by decide +kernel
theorem dX6_means_13 : decode cX6_means 13 = .ok (.iconst 1, 1) := by decide +kernel
theorem dX6_means_14 : decode cX6_means 14 = .ok (.isub, 1) := by decide +kernel
theorem dX6_means_15 : decode cX6_means 15 = .ok (.istore 5, 2) := by decide +kernel
theorem dX6_means_17 : decode cX6_means 17 = .ok (.iload 5, 2) := by decide +kernel
theorem dX6_means_19 : decode cX6_means 19 = .ok (.ifCond .lt 86, 3) := by decide +kernel
theorem dX6_means_22 : decode cX6_means 22 = .ok (.iload_n 2, 1) := by decide +kernel
theorem dX6_means_23 : decode cX6_means 23 = .ok (.bipush 8, 2) := by decide +kernel
theorem dX6_means_25 : decode cX6_means 25 = .ok (.irem, 1) := by decide +kernel
theorem dX6_means_26 : decode cX6_means 26 = .ok (.iconst 1, 1) := by decide +kernel
theorem dX6_means_27 : decode cX6_means 27 = .ok (.isub, 1) := by decide +kernel
theorem dX6_means_28 : decode cX6_means 28 = .ok (.istore 6, 2) := by decide +kernel
theorem dX6_means_30 : decode cX6_means 30 = .ok (.aload_n 0, 1) := by decide +kernel
theorem dX6_means_31 : decode cX6_means 31 = .ok (.getfield 27, 3) := by decide +kernel
theorem dX6_means_34 : decode cX6_means 34 = .ok (.iload 5, 2) := by decide +kernel
theorem dX6_means_36 : decode cX6_means 36 = .ok (.iload 6, 2) := by decide +kernel
theorem dX6_means_38 : decode cX6_means 38 = .ok (.iastore, 1) := by decide +kernel
theorem dX6_means_39 : decode cX6_means 39 = .ok (.iload_n 2, 1) := by decide +kernel
theorem dX6_means_40 : decode cX6_means 40 = .ok (.bipush 8, 2) := by decide +kernel
theorem dX6_means_42 : decode cX6_means 42 = .ok (.idiv, 1) := by decide +kernel
theorem dX6_means_43 : decode cX6_means 43 = .ok (.istore_n 2, 1) := by decide +kernel
theorem dX6_means_44 : decode cX6_means 44 = .ok (.iload 6, 2) := by decide +kernel
theorem dX6_means_46 : decode cX6_means 46 = .ok (.iconst (-1), 1) := by decide +kernel
theorem dX6_means_47 : decode cX6_means 47 = .ok (.if_icmp .eq 52, 3) := by decide +kernel
theorem dX6_means_50 : decode cX6_means 50 = .ok (.iload 4, 2) := by decide +kernel
theorem dX6_means_52 : decode cX6_means 52 = .ok (.ifCond .eq 37, 3) := by decide +kernel
theorem dX6_means_55 : decode cX6_means 55 = .ok (.aload_n 0, 1) := by decide +kernel
theorem dX6_means_56 : decode cX6_means 56 = .ok (.iload 6, 2) := by decide +kernel
theorem dX6_means_58 : decode cX6_means 58 = .ok (.invokevirtual 121, 3) := by decide +kernel
theorem dX6_means_61 : decode cX6_means 61 = .ok (.ifCond .eq 28, 3) := by decide +kernel
theorem dX6_means_64 : decode cX6_means 64 = .ok (.aload_n 0, 1) := by decide +kernel
theorem dX6_means_65 : decode cX6_means 65 = .ok (.getfield 7, 3) := by decide +kernel
theorem dX6_means_68 : decode cX6_means 68 = .ok (.iload 6, 2) := by decide +kernel
theorem dX6_means_70 : decode cX6_means 70 = .ok (.invokestatic 95, 3) := by decide +kernel
theorem dX6_means_73 : decode cX6_means 73 = .ok (.ifCond .eq 16, 3) := by decide +kernel
theorem dX6_means_76 : decode cX6_means 76 = .ok (.iload_n 3, 1) := by decide +kernel
theorem dX6_means_77 : decode cX6_means 77 = .ok (.iload 6, 2) := by decide +kernel
theorem dX6_means_79 : decode cX6_means 79 = .ok (.invokestatic 162, 3) := by decide +kernel
theorem dX6_means_82 : decode cX6_means 82 = .ok (.ifCond .ne 7, 3) := by decide +kernel
theorem dX6_means_85 : decode cX6_means 85 = .ok (.iconst 1, 1) := by decide +kernel
theorem dX6_means_86 : decode cX6_means 86 = .ok (.goto 4, 3) := by decide +kernel
theorem dX6_means_89 : decode cX6_means 89 = .ok (.iconst 0, 1) := by decide +kernel
theorem dX6_means_90 : decode cX6_means 90 = .ok (.istore 4, 2) := by decide +kernel
theorem dX6_means_92 : decode cX6_means 92 = .ok (.iload_n 3, 1) := by decide +kernel
theorem dX6_means_93 : decode cX6_means 93 = .ok (.iconst 1, 1) := by decide +kernel
theorem dX6_means_94 : decode cX6_means 94 = .ok (.iload 6, 2) := by decide +kernel
theorem dX6_means_96 : decode cX6_means 96 = .ok (.ishl, 1) := by decide +kernel
theorem dX6_means_97 : decode cX6_means 97 = .ok (.ior, 1) := by decide +kernel
theorem dX6_means_98 : decode cX6_means 98 = .ok (.istore_n 3, 1) := by decide +kernel
theorem dX6_means_99 : decode cX6_means 99 = .ok (.iinc 5 (-1), 3) := by decide +kernel
theorem dX6_means_102 : decode cX6_means 102 = .ok (.goto (-85), 3) := by decide +kernel
theorem dX6_means_105 : decode cX6_means 105 = .ok (.iload 4, 2) := by decide +kernel
theorem dX6_means_107 : decode cX6_means 107 = .ok (.ireturn, 1) := by decide +kernel
theorem dX6_codes_0 : decode cX6_codes 0 = .ok (.iconst 1, 1) := by decide +kernel
theorem dX6_codes_1 : decode cX6_codes 1 = .ok (.istore_n 1, 1) := by decide +kernel
theorem dX6_codes_2 : decode cX6_codes 2 = .ok (.iconst 0, 1) := by decide +kernel
theorem dX6_codes_3 : decode cX6_codes 3 = .ok (.istore_n 2, 1) := by decide +kernel
theorem dX6_codes_4 : decode cX6_codes 4 = .ok (.iload_n 2, 1) := by decide +kernel
theorem dX6_codes_5 : decode cX6_codes 5 = .ok (.aload_n 0, 1) := by decide +kernel
theorem dX6_codes_6 : decode cX6_codes 6 = .ok (.getfield 7, 3) := by decide +kernel
theorem dX6_codes_9 : decode cX6_codes 9 = .ok (.iconst 1, 1) := by decide +kernel
theorem dX6_codes_10 : decode cX6_codes 10 = .ok (.iaload, 1) := by decide +kernel
theorem dX6_codes_11 : decode cX6_codes 11 = .ok (.if_icmp .ge 14, 3) := by decide +kernel
theorem dX6_codes_14 : decode cX6_codes 14 = .ok (.iload_n 1, 1) := by decide +kernel
theorem dX6_codes_15 : decode cX6_codes 15 = .ok (.bipush 8, 2) := by decide +kernel
theorem dX6_codes_17 : decode cX6_codes 17 = .ok (.imul, 1) := by decide +kernel
theorem dX6_codes_18 : decode cX6_codes 18 = .ok (.istore_n 1, 1) := by decide +kernel
theorem dX6_codes_19 : decode cX6_codes 19 = .ok (.iinc 2 1, 3) := by decide +kernel
theorem dX6_codes_22 : decode cX6_codes 22 = .ok (.goto (-18), 3) := by decide +kernel
theorem dX6_codes_25 : decode cX6_codes 25 = .ok (.iload_n 1, 1) := by decide +kernel
theorem dX6_codes_26 : decode cX6_codes 26 = .ok (.ireturn, 1) := by decide +kernel
theorem dX6_fit_0 : decode cX6_fit 0 = .ok (.iload_n 1, 1) := by decide +kernel
theorem dX6_fit_1 : decode cX6_fit 1 = .ok (.iconst (-1), 1) := by decide +kernel
theorem dX6_fit_2 : decode cX6_fit 2 = .ok (.if_icmp .eq 18, 3) := by decide +kernel
theorem dX6_fit_5 : decode cX6_fit 5 = .ok (.aload_n 0, 1) := by decide +kernel
theorem dX6_fit_6 : decode cX6_fit 6 = .ok (.iload_n 1, 1) := by decide +kernel
theorem dX6_fit_7 : decode cX6_fit 7 = .ok (.invokevirtual 134, 3) := by decide +kernel
theorem dX6_fit_10 : decode cX6_fit 10 = .ok (.ifCond .ne 10, 3) := by decide +kernel
theorem dX6_fit_13 : decode cX6_fit 13 = .ok (.aload_n 0, 1) := by decide +kernel
theorem dX6_fit_14 : decode cX6_fit 14 = .ok (.bipush (-10), 2) := by decide +kernel
theorem dX6_fit_16 : decode cX6_fit 16 = .ok (.invokevirtual 71, 3) := by decide +kernel
theorem dX6_fit_19 : decode cX6_fit 19 = .ok (.ireturn, 1) := by decide +kernel
theorem dX6_fit_20 : decode cX6_fit 20 = .ok (.iconst (-1), 1) := by decide +kernel
theorem dX6_fit_21 : decode cX6_fit 21 = .ok (.istore_n 2, 1) := by decide +kernel
theorem dX6_fit_22 : decode cX6_fit 22 = .ok (.iconst 0, 1) := by decide +kernel
theorem dX6_fit_23 : decode cX6_fit 23 = .ok (.istore_n 3, 1) := by decide +kernel
theorem dX6_fit_24 : decode cX6_fit 24 = .ok (.iload_n 3, 1) := by decide +kernel
theorem dX6_fit_25 : decode cX6_fit 25 = .ok (.aload_n 0, 1) := by decide +kernel
theorem dX6_fit_26 : decode cX6_fit 26 = .ok (.invokevirtual 166, 3) := by decide +kernel
theorem dX6_fit_29 : decode cX6_fit 29 = .ok (.if_icmp .ge 114, 3) := by decide +kernel
theorem dX6_fit_32 : decode cX6_fit 32 = .ok (.aload_n 0, 1) := by decide +kernel
theorem dX6_fit_33 : decode cX6_fit 33 = .ok (.iload_n 3, 1) := by decide +kernel
theorem dX6_fit_34 : decode cX6_fit 34 = .ok (.invokevirtual 169, 3) := by decide +kernel
theorem dX6_fit_37 : decode cX6_fit 37 = .ok (.ifCond .eq 100, 3) := by decide +kernel
theorem dX6_fit_40 : decode cX6_fit 40 = .ok (.iconst 0, 1) := by decide +kernel
theorem dX6_fit_41 : decode cX6_fit 41 = .ok (.istore 4, 2) := by decide +kernel
theorem dX6_fit_43 : decode cX6_fit 43 = .ok (.iconst 0, 1) := by decide +kernel
theorem dX6_fit_44 : decode cX6_fit 44 = .ok (.istore 5, 2) := by decide +kernel
theorem dX6_fit_46 : decode cX6_fit 46 = .ok (.iload 5, 2) := by decide +kernel
theorem dX6_fit_48 : decode cX6_fit 48 = .ok (.aload_n 0, 1) := by decide +kernel
theorem dX6_fit_49 : decode cX6_fit 49 = .ok (.getfield 7, 3) := by decide +kernel
theorem dX6_fit_52 : decode cX6_fit 52 = .ok (.iconst 1, 1) := by decide +kernel
theorem dX6_fit_53 : decode cX6_fit 53 = .ok (.iaload, 1) := by decide +kernel
theorem dX6_fit_54 : decode cX6_fit 54 = .ok (.if_icmp .ge 45, 3) := by decide +kernel
theorem dX6_fit_57 : decode cX6_fit 57 = .ok (.iload 4, 2) := by decide +kernel
theorem dX6_fit_59 : decode cX6_fit 59 = .ok (.aload_n 0, 1) := by decide +kernel
theorem dX6_fit_60 : decode cX6_fit 60 = .ok (.getfield 27, 3) := by decide +kernel
theorem dX6_fit_63 : decode cX6_fit 63 = .ok (.iload 5, 2) := by decide +kernel
theorem dX6_fit_65 : decode cX6_fit 65 = .ok (.iaload, 1) := by decide +kernel
theorem dX6_fit_66 : decode cX6_fit 66 = .ok (.iconst (-1), 1) := by decide +kernel
theorem dX6_fit_67 : decode cX6_fit 67 = .ok (.if_icmp .ne 7, 3) := by decide +kernel
theorem dX6_fit_70 : decode cX6_fit 70 = .ok (.iconst 0, 1) := by decide +kernel
theorem dX6_fit_71 : decode cX6_fit 71 = .ok (.goto 19, 3) := by decide +kernel
theorem dX6_fit_74 : decode cX6_fit 74 = .ok (.aload_n 0, 1) := by decide +kernel
theorem dX6_fit_75 : decode cX6_fit 75 = .ok (.getfield 7, 3) := by decide +kernel
theorem dX6_fit_78 : decode cX6_fit 78 = .ok (.aload_n 0, 1) := by decide +kernel
theorem dX6_fit_79 : decode cX6_fit 79 = .ok (.getfield 27, 3) := by decide +kernel
theorem dX6_fit_82 : decode cX6_fit 82 = .ok (.iload 5, 2) := by decide +kernel
theorem dX6_fit_84 : decode cX6_fit 84 = .ok (.iaload, 1) := by decide +kernel
theorem dX6_fit_85 : decode cX6_fit 85 = .ok (.iload 5, 2) := by decide +kernel
theorem dX6_fit_87 : decode cX6_fit 87 = .ok (.invokestatic 114, 3) := by decide +kernel
theorem dX6_fit_90 : decode cX6_fit 90 = .ok (.iadd, 1) := by decide +kernel
theorem dX6_fit_91 : decode cX6_fit 91 = .ok (.istore 4, 2) := by decide +kernel
theorem dX6_fit_93 : decode cX6_fit 93 = .ok (.iinc 5 1, 3) := by decide +kernel
theorem dX6_fit_96 : decode cX6_fit 96 = .ok (.goto (-50), 3) := by decide +kernel
theorem dX6_fit_99 : decode cX6_fit 99 = .ok (.iload 4, 2) := by decide +kernel
theorem dX6_fit_101 : decode cX6_fit 101 = .ok (.iload_n 2, 1) := by decide +kernel
theorem dX6_fit_102 : decode cX6_fit 102 = .ok (.if_icmp .le 35, 3) := by decide +kernel
theorem dX6_fit_105 : decode cX6_fit 105 = .ok (.iload 4, 2) := by decide +kernel
theorem dX6_fit_107 : decode cX6_fit 107 = .ok (.istore_n 2, 1) := by decide +kernel
theorem dX6_fit_108 : decode cX6_fit 108 = .ok (.iconst 0, 1) := by decide +kernel
theorem dX6_fit_109 : decode cX6_fit 109 = .ok (.istore 5, 2) := by decide +kernel
theorem dX6_fit_111 : decode cX6_fit 111 = .ok (.iload 5, 2) := by decide +kernel
theorem dX6_fit_113 : decode cX6_fit 113 = .ok (.iconst 4, 1) := by decide +kernel
theorem dX6_fit_114 : decode cX6_fit 114 = .ok (.if_icmp .ge 23, 3) := by decide +kernel
theorem dX6_fit_117 : decode cX6_fit 117 = .ok (.aload_n 0, 1) := by decide +kernel
theorem dX6_fit_118 : decode cX6_fit 118 = .ok (.getfield 30, 3) := by decide +kernel
theorem dX6_fit_121 : decode cX6_fit 121 = .ok (.iload 5, 2) := by decide +kernel
theorem dX6_fit_123 : decode cX6_fit 123 = .ok (.aload_n 0, 1) := by decide +kernel
theorem dX6_fit_124 : decode cX6_fit 124 = .ok (.getfield 27, 3) := by decide +kernel
theorem dX6_fit_127 : decode cX6_fit 127 = .ok (.iload 5, 2) := by decide +kernel
theorem dX6_fit_129 : decode cX6_fit 129 = .ok (.iaload, 1) := by decide +kernel
theorem dX6_fit_130 : decode cX6_fit 130 = .ok (.iastore, 1) := by decide +kernel
theorem dX6_fit_131 : decode cX6_fit 131 = .ok (.iinc 5 1, 3) := by decide +kernel
theorem dX6_fit_134 : decode cX6_fit 134 = .ok (.goto (-23), 3) := by decide +kernel
theorem dX6_fit_137 : decode cX6_fit 137 = .ok (.iinc 3 1, 3) := by decide +kernel
theorem dX6_fit_140 : decode cX6_fit 140 = .ok (.goto (-116), 3) := by decide +kernel
theorem dX6_fit_143 : decode cX6_fit 143 = .ok (.iload_n 1, 1) := by decide +kernel
theorem dX6_fit_144 : decode cX6_fit 144 = .ok (.iconst (-1), 1) := by decide +kernel
theorem dX6_fit_145 : decode cX6_fit 145 = .ok (.if_icmp .ne 7, 3) := by decide +kernel
theorem dX6_fit_148 : decode cX6_fit 148 = .ok (.iload_n 2, 1) := by decide +kernel
theorem dX6_fit_149 : decode cX6_fit 149 = .ok (.goto 9, 3) := by decide +kernel
theorem dX6_fit_152 : decode cX6_fit 152 = .ok (.aload_n 0, 1) := by decide +kernel
theorem dX6_fit_153 : decode cX6_fit 153 = .ok (.getfield 30, 3) := by decide +kernel
theorem dX6_fit_156 : decode cX6_fit 156 = .ok (.iload_n 1, 1) := by decide +kernel
theorem dX6_fit_157 : decode cX6_fit 157 = .ok (.iaload, 1) := by decide +kernel
theorem dX6_fit_158 : decode cX6_fit 158 = .ok (.ireturn, 1) := by decide +kernel
theorem dX6_buy_0 : decode cX6_buy 0 = .ok (.aload_n 0, 1) := by decide +kernel
theorem dX6_buy_1 : decode cX6_buy 1 = .ok (.iload_n 1, 1) := by decide +kernel
theorem dX6_buy_2 : decode cX6_buy 2 = .ok (.invokevirtual 118, 3) := by decide +kernel
theorem dX6_buy_5 : decode cX6_buy 5 = .ok (.ifCond .eq 21, 3) := by decide +kernel
theorem dX6_buy_8 : decode cX6_buy 8 = .ok (.aload_n 0, 1) := by decide +kernel
theorem dX6_buy_9 : decode cX6_buy 9 = .ok (.iload_n 2, 1) := by decide +kernel
theorem dX6_buy_10 : decode cX6_buy 10 = .ok (.invokevirtual 134, 3) := by decide +kernel
theorem dX6_buy_13 : decode cX6_buy 13 = .ok (.ifCond .eq 13, 3) := by decide +kernel
theorem dX6_buy_16 : decode cX6_buy 16 = .ok (.iload_n 3, 1) := by decide +kernel
theorem dX6_buy_17 : decode cX6_buy 17 = .ok (.i2l, 1) := by decide +kernel
theorem dX6_buy_18 : decode cX6_buy 18 = .ok (.lconst 0, 1) := by decide +kernel
theorem dX6_buy_19 : decode cX6_buy 19 = .ok (.lconst 1, 1) := by decide +kernel
theorem dX6_buy_20 : decode cX6_buy 20 = .ok (.invokestatic 56, 3) := by decide +kernel
theorem dX6_buy_23 : decode cX6_buy 23 = .ok (.ifCond .ne 10, 3) := by decide +kernel
theorem dX6_buy_26 : decode cX6_buy 26 = .ok (.aload_n 0, 1) := by decide +kernel
theorem dX6_buy_27 : decode cX6_buy 27 = .ok (.bipush (-2), 2) := by decide +kernel
theorem dX6_buy_29 : decode cX6_buy 29 = .ok (.invokevirtual 71, 3) := by decide +kernel
theorem dX6_buy_32 : decode cX6_buy 32 = .ok (.ireturn, 1) := by decide +kernel
theorem dX6_buy_33 : decode cX6_buy 33 = .ok (.iconst (-1), 1) := by decide +kernel
theorem dX6_buy_34 : decode cX6_buy 34 = .ok (.istore 4, 2) := by decide +kernel
theorem dX6_buy_36 : decode cX6_buy 36 = .ok (.iconst 0, 1) := by decide +kernel
theorem dX6_buy_37 : decode cX6_buy 37 = .ok (.istore 5, 2) := by decide +kernel
theorem dX6_buy_39 : decode cX6_buy 39 = .ok (.iconst 0, 1) := by decide +kernel
theorem dX6_buy_40 : decode cX6_buy 40 = .ok (.istore 6, 2) := by decide +kernel
theorem dX6_buy_42 : decode cX6_buy 42 = .ok (.iload 6, 2) := by decide +kernel
theorem dX6_buy_44 : decode cX6_buy 44 = .ok (.iconst 1, 1) := by decide +kernel
theorem dX6_buy_45 : decode cX6_buy 45 = .ok (.aload_n 0, 1) := by decide +kernel
theorem dX6_buy_46 : decode cX6_buy 46 = .ok (.invokevirtual 52, 3) := by decide +kernel
theorem dX6_buy_49 : decode cX6_buy 49 = .ok (.ishl, 1) := by decide +kernel
theorem dX6_buy_50 : decode cX6_buy 50 = .ok (.if_icmp .ge 145, 3) := by decide +kernel
theorem dX6_buy_53 : decode cX6_buy 53 = .ok (.iconst 0, 1) := by decide +kernel
theorem dX6_buy_54 : decode cX6_buy 54 = .ok (.istore 7, 2) := by decide +kernel
theorem dX6_buy_56 : decode cX6_buy 56 = .ok (.iconst 0, 1) := by decide +kernel
theorem dX6_buy_57 : decode cX6_buy 57 = .ok (.istore 8, 2) := by decide +kernel
theorem dX6_buy_59 : decode cX6_buy 59 = .ok (.iconst 0, 1) := by decide +kernel
theorem dX6_buy_60 : decode cX6_buy 60 = .ok (.istore 9, 2) := by decide +kernel
theorem dX6_buy_62 : decode cX6_buy 62 = .ok (.iload 9, 2) := by decide +kernel
theorem dX6_buy_64 : decode cX6_buy 64 = .ok (.aload_n 0, 1) := by decide +kernel
theorem dX6_buy_65 : decode cX6_buy 65 = .ok (.invokevirtual 52, 3) := by decide +kernel
theorem dX6_buy_68 : decode cX6_buy 68 = .ok (.if_icmp .ge 65, 3) := by decide +kernel
theorem dX6_buy_71 : decode cX6_buy 71 = .ok (.iload 6, 2) := by decide +kernel
theorem dX6_buy_73 : decode cX6_buy 73 = .ok (.iload 9, 2) := by decide +kernel
theorem dX6_buy_75 : decode cX6_buy 75 = .ok (.invokestatic 162, 3) := by decide +kernel
theorem dX6_buy_78 : decode cX6_buy 78 = .ok (.ifCond .eq 49, 3) := by decide +kernel
theorem dX6_buy_81 : decode cX6_buy 81 = .ok (.iload 7, 2) := by decide +kernel
theorem dX6_buy_83 : decode cX6_buy 83 = .ok (.aload_n 0, 1) := by decide +kernel
theorem dX6_buy_84 : decode cX6_buy 84 = .ok (.getfield 7, 3) := by decide +kernel
theorem dX6_buy_87 : decode cX6_buy 87 = .ok (.iload 9, 2) := by decide +kernel
theorem dX6_buy_89 : decode cX6_buy 89 = .ok (.invokestatic 95, 3) := by decide +kernel
theorem dX6_buy_92 : decode cX6_buy 92 = .ok (.ifCond .eq 15, 3) := by decide +kernel
theorem dX6_buy_95 : decode cX6_buy 95 = .ok (.aload_n 0, 1) := by decide +kernel
theorem dX6_buy_96 : decode cX6_buy 96 = .ok (.getfield 7, 3) := by decide +kernel
theorem dX6_buy_99 : decode cX6_buy 99 = .ok (.iload 9, 2) := by decide +kernel
theorem dX6_buy_101 : decode cX6_buy 101 = .ok (.invokestatic 111, 3) := by decide +kernel
theorem dX6_buy_104 : decode cX6_buy 104 = .ok (.goto 5, 3) := by decide +kernel
theorem dX6_buy_107 : decode cX6_buy 107 = .ok (.ldc 172, 2) := by decide +kernel
theorem dX6_buy_109 : decode cX6_buy 109 = .ok (.iadd, 1) := by decide +kernel
theorem dX6_buy_110 : decode cX6_buy 110 = .ok (.istore 7, 2) := by decide +kernel
theorem dX6_buy_112 : decode cX6_buy 112 = .ok (.iload 8, 2) := by decide +kernel
theorem dX6_buy_114 : decode cX6_buy 114 = .ok (.aload_n 0, 1) := by decide +kernel
theorem dX6_buy_115 : decode cX6_buy 115 = .ok (.getfield 7, 3) := by decide +kernel
theorem dX6_buy_118 : decode cX6_buy 118 = .ok (.iload 9, 2) := by decide +kernel
theorem dX6_buy_120 : decode cX6_buy 120 = .ok (.iload_n 2, 1) := by decide +kernel
theorem dX6_buy_121 : decode cX6_buy 121 = .ok (.invokestatic 114, 3) := by decide +kernel
theorem dX6_buy_124 : decode cX6_buy 124 = .ok (.iadd, 1) := by decide +kernel
theorem dX6_buy_125 : decode cX6_buy 125 = .ok (.istore 8, 2) := by decide +kernel
theorem dX6_buy_127 : decode cX6_buy 127 = .ok (.iinc 9 1, 3) := by decide +kernel
theorem dX6_buy_130 : decode cX6_buy 130 = .ok (.goto (-68), 3) := by decide +kernel
theorem dX6_buy_133 : decode cX6_buy 133 = .ok (.iload 7, 2) := by decide +kernel
theorem dX6_buy_135 : decode cX6_buy 135 = .ok (.aload_n 0, 1) := by decide +kernel
theorem dX6_buy_136 : decode cX6_buy 136 = .ok (.getfield 7, 3) := by decide +kernel
theorem dX6_buy_139 : decode cX6_buy 139 = .ok (.bipush 21, 2) := by decide +kernel
theorem dX6_buy_141 : decode cX6_buy 141 = .ok (.iload_n 1, 1) := by decide +kernel
theorem dX6_buy_142 : decode cX6_buy 142 = .ok (.iadd, 1) := by decide +kernel
theorem dX6_buy_143 : decode cX6_buy 143 = .ok (.iaload, 1) := by decide +kernel
theorem dX6_buy_144 : decode cX6_buy 144 = .ok (.if_icmp .gt 14, 3) := by decide +kernel
theorem dX6_buy_147 : decode cX6_buy 147 = .ok (.iload 8, 2) := by decide +kernel
theorem dX6_buy_149 : decode cX6_buy 149 = .ok (.iload 4, 2) := by decide +kernel
theorem dX6_buy_151 : decode cX6_buy 151 = .ok (.if_icmp .le 7, 3) := by decide +kernel
theorem dX6_buy_154 : decode cX6_buy 154 = .ok (.iconst 1, 1) := by decide +kernel
theorem dX6_buy_155 : decode cX6_buy 155 = .ok (.goto 4, 3) := by decide +kernel
theorem dX6_buy_158 : decode cX6_buy 158 = .ok (.iconst 0, 1) := by decide +kernel
theorem dX6_buy_159 : decode cX6_buy 159 = .ok (.istore 9, 2) := by decide +kernel
theorem dX6_buy_161 : decode cX6_buy 161 = .ok (.iload 9, 2) := by decide +kernel
theorem dX6_buy_163 : decode cX6_buy 163 = .ok (.ifCond .eq 8, 3) := by decide +kernel
theorem dX6_buy_166 : decode cX6_buy 166 = .ok (.iload 6, 2) := by decide +kernel
theorem dX6_buy_168 : decode cX6_buy 168 = .ok (.goto 5, 3) := by decide +kernel
theorem dX6_buy_171 : decode cX6_buy 171 = .ok (.iload 5, 2) := by decide +kernel
theorem dX6_buy_173 : decode cX6_buy 173 = .ok (.istore 5, 2) := by decide +kernel
theorem dX6_buy_175 : decode cX6_buy 175 = .ok (.iload 9, 2) := by decide +kernel
theorem dX6_buy_177 : decode cX6_buy 177 = .ok (.ifCond .eq 8, 3) := by decide +kernel
theorem dX6_buy_180 : decode cX6_buy 180 = .ok (.iload 8, 2) := by decide +kernel
theorem dX6_buy_182 : decode cX6_buy 182 = .ok (.goto 5, 3) := by decide +kernel
theorem dX6_buy_185 : decode cX6_buy 185 = .ok (.iload 4, 2) := by decide +kernel
theorem dX6_buy_187 : decode cX6_buy 187 = .ok (.istore 4, 2) := by decide +kernel
theorem dX6_buy_189 : decode cX6_buy 189 = .ok (.iinc 6 1, 3) := by decide +kernel
theorem dX6_buy_192 : decode cX6_buy 192 = .ok (.goto (-150), 3) := by decide +kernel
theorem dX6_buy_195 : decode cX6_buy 195 = .ok (.iload_n 3, 1) := by decide +kernel
theorem dX6_buy_196 : decode cX6_buy 196 = .ok (.ifCond .ne 8, 3) := by decide +kernel
theorem dX6_buy_199 : decode cX6_buy 199 = .ok (.iload 4, 2) := by decide +kernel
theorem dX6_buy_201 : decode cX6_buy 201 = .ok (.goto 5, 3) := by decide +kernel
theorem dX6_buy_204 : decode cX6_buy 204 = .ok (.iload 5, 2) := by decide +kernel
theorem dX6_buy_206 : decode cX6_buy 206 = .ok (.ireturn, 1) := by decide +kernel
theorem dX6_cheap_0 : decode cX6_cheap 0 = .ok (.aload_n 0, 1) := by decide +kernel
theorem dX6_cheap_1 : decode cX6_cheap 1 = .ok (.invokevirtual 159, 3) := by decide +kernel
theorem dX6_cheap_4 : decode cX6_cheap 4 = .ok (.istore_n 1, 1) := by decide +kernel
theorem dX6_cheap_5 : decode cX6_cheap 5 = .ok (.ldc 172, 2) := by decide +kernel
theorem dX6_cheap_7 : decode cX6_cheap 7 = .ok (.istore_n 2, 1) := by decide +kernel
theorem dX6_cheap_8 : decode cX6_cheap 8 = .ok (.iconst 0, 1) := by decide +kernel
theorem dX6_cheap_9 : decode cX6_cheap 9 = .ok (.istore_n 3, 1) := by decide +kernel
theorem dX6_cheap_10 : decode cX6_cheap 10 = .ok (.iload_n 3, 1) := by decide +kernel
theorem dX6_cheap_11 : decode cX6_cheap 11 = .ok (.aload_n 0, 1) := by decide +kernel
theorem dX6_cheap_12 : decode cX6_cheap 12 = .ok (.invokevirtual 166, 3) := by decide +kernel
theorem dX6_cheap_15 : decode cX6_cheap 15 = .ok (.if_icmp .ge 162, 3) := by decide +kernel
theorem dX6_cheap_18 : decode cX6_cheap 18 = .ok (.aload_n 0, 1) := by decide +kernel
theorem dX6_cheap_19 : decode cX6_cheap 19 = .ok (.iload_n 3, 1) := by decide +kernel
theorem dX6_cheap_20 : decode cX6_cheap 20 = .ok (.invokevirtual 169, 3) := by decide +kernel
theorem dX6_cheap_23 : decode cX6_cheap 23 = .ok (.ifCond .eq 148, 3) := by decide +kernel
theorem dX6_cheap_26 : decode cX6_cheap 26 = .ok (.iconst 0, 1) := by decide +kernel
theorem dX6_cheap_27 : decode cX6_cheap 27 = .ok (.istore 4, 2) := by decide +kernel
theorem dX6_cheap_29 : decode cX6_cheap 29 = .ok (.iconst 0, 1) := by decide +kernel
theorem dX6_cheap_30 : decode cX6_cheap 30 = .ok (.istore 5, 2) := by decide +kernel
theorem dX6_cheap_32 : decode cX6_cheap 32 = .ok (.iload 5, 2) := by decide +kernel
theorem dX6_cheap_34 : decode cX6_cheap 34 = .ok (.aload_n 0, 1) := by decide +kernel
theorem dX6_cheap_35 : decode cX6_cheap 35 = .ok (.getfield 7, 3) := by decide +kernel
theorem dX6_cheap_38 : decode cX6_cheap 38 = .ok (.iconst 1, 1) := by decide +kernel
theorem dX6_cheap_39 : decode cX6_cheap 39 = .ok (.iaload, 1) := by decide +kernel
theorem dX6_cheap_40 : decode cX6_cheap 40 = .ok (.if_icmp .ge 118, 3) := by decide +kernel
theorem dX6_cheap_43 : decode cX6_cheap 43 = .ok (.iload_n 1, 1) := by decide +kernel
theorem dX6_cheap_44 : decode cX6_cheap 44 = .ok (.iload 5, 2) := by decide +kernel
theorem dX6_cheap_46 : decode cX6_cheap 46 = .ok (.invokestatic 162, 3) := by decide +kernel
theorem dX6_cheap_49 : decode cX6_cheap 49 = .ok (.ifCond .eq 41, 3) := by decide +kernel
theorem dX6_cheap_52 : decode cX6_cheap 52 = .ok (.aload_n 0, 1) := by decide +kernel
theorem dX6_cheap_53 : decode cX6_cheap 53 = .ok (.getfield 27, 3) := by decide +kernel
theorem dX6_cheap_56 : decode cX6_cheap 56 = .ok (.iload 5, 2) := by decide +kernel
theorem dX6_cheap_58 : decode cX6_cheap 58 = .ok (.iaload, 1) := by decide +kernel
theorem dX6_cheap_59 : decode cX6_cheap 59 = .ok (.iconst (-1), 1) := by decide +kernel
theorem dX6_cheap_60 : decode cX6_cheap 60 = .ok (.if_icmp .eq 26, 3) := by decide +kernel
theorem dX6_cheap_63 : decode cX6_cheap 63 = .ok (.aload_n 0, 1) := by decide +kernel
theorem dX6_cheap_64 : decode cX6_cheap 64 = .ok (.getfield 7, 3) := by decide +kernel
theorem dX6_cheap_67 : decode cX6_cheap 67 = .ok (.aload_n 0, 1) := by decide +kernel
theorem dX6_cheap_68 : decode cX6_cheap 68 = .ok (.getfield 27, 3) := by decide +kernel
theorem dX6_cheap_71 : decode cX6_cheap 71 = .ok (.iload 5, 2) := by decide +kernel
theorem dX6_cheap_73 : decode cX6_cheap 73 = .ok (.iaload, 1) := by decide +kernel
theorem dX6_cheap_74 : decode cX6_cheap 74 = .ok (.iload 5, 2) := by decide +kernel
theorem dX6_cheap_76 : decode cX6_cheap 76 = .ok (.invokestatic 114, 3) := by decide +kernel
theorem dX6_cheap_79 : decode cX6_cheap 79 = .ok (.ifCond .le 7, 3) := by decide +kernel
theorem dX6_cheap_82 : decode cX6_cheap 82 = .ok (.iconst 1, 1) := by decide +kernel
theorem dX6_cheap_83 : decode cX6_cheap 83 = .ok (.goto 23, 3) := by decide +kernel
theorem dX6_cheap_86 : decode cX6_cheap 86 = .ok (.iconst 0, 1) := by decide +kernel
theorem dX6_cheap_87 : decode cX6_cheap 87 = .ok (.goto 19, 3) := by decide +kernel
theorem dX6_cheap_90 : decode cX6_cheap 90 = .ok (.aload_n 0, 1) := by decide +kernel
theorem dX6_cheap_91 : decode cX6_cheap 91 = .ok (.getfield 27, 3) := by decide +kernel
theorem dX6_cheap_94 : decode cX6_cheap 94 = .ok (.iload 5, 2) := by decide +kernel
theorem dX6_cheap_96 : decode cX6_cheap 96 = .ok (.iaload, 1) := by decide +kernel
theorem dX6_cheap_97 : decode cX6_cheap 97 = .ok (.iconst (-1), 1) := by decide +kernel
theorem dX6_cheap_98 : decode cX6_cheap 98 = .ok (.if_icmp .ne 7, 3) := by decide +kernel
theorem dX6_cheap_101 : decode cX6_cheap 101 = .ok (.iconst 1, 1) := by decide +kernel
theorem dX6_cheap_102 : decode cX6_cheap 102 = .ok (.goto 4, 3) := by decide +kernel
theorem dX6_cheap_105 : decode cX6_cheap 105 = .ok (.iconst 0, 1) := by decide +kernel
theorem dX6_cheap_106 : decode cX6_cheap 106 = .ok (.istore 6, 2) := by decide +kernel
theorem dX6_cheap_108 : decode cX6_cheap 108 = .ok (.iload 4, 2) := by decide +kernel
theorem dX6_cheap_110 : decode cX6_cheap 110 = .ok (.iload 6, 2) := by decide +kernel
theorem dX6_cheap_112 : decode cX6_cheap 112 = .ok (.ifCond .ne 8, 3) := by decide +kernel
theorem dX6_cheap_115 : decode cX6_cheap 115 = .ok (.ldc 172, 2) := by decide +kernel
theorem dX6_cheap_117 : decode cX6_cheap 117 = .ok (.goto 32, 3) := by decide +kernel
theorem dX6_cheap_120 : decode cX6_cheap 120 = .ok (.aload_n 0, 1) := by decide +kernel
theorem dX6_cheap_121 : decode cX6_cheap 121 = .ok (.getfield 27, 3) := by decide +kernel
theorem dX6_cheap_124 : decode cX6_cheap 124 = .ok (.iload 5, 2) := by decide +kernel
theorem dX6_cheap_126 : decode cX6_cheap 126 = .ok (.iaload, 1) := by decide +kernel
theorem dX6_cheap_127 : decode cX6_cheap 127 = .ok (.iconst (-1), 1) := by decide +kernel
theorem dX6_cheap_128 : decode cX6_cheap 128 = .ok (.if_icmp .ne 7, 3) := by decide +kernel
theorem dX6_cheap_131 : decode cX6_cheap 131 = .ok (.iconst 0, 1) := by decide +kernel
theorem dX6_cheap_132 : decode cX6_cheap 132 = .ok (.goto 17, 3) := by decide +kernel
theorem dX6_cheap_135 : decode cX6_cheap 135 = .ok (.aload_n 0, 1) := by decide +kernel
theorem dX6_cheap_136 : decode cX6_cheap 136 = .ok (.getfield 7, 3) := by decide +kernel
theorem dX6_cheap_139 : decode cX6_cheap 139 = .ok (.aload_n 0, 1) := by decide +kernel
theorem dX6_cheap_140 : decode cX6_cheap 140 = .ok (.getfield 27, 3) := by decide +kernel
theorem dX6_cheap_143 : decode cX6_cheap 143 = .ok (.iload 5, 2) := by decide +kernel
theorem dX6_cheap_145 : decode cX6_cheap 145 = .ok (.iaload, 1) := by decide +kernel
theorem dX6_cheap_146 : decode cX6_cheap 146 = .ok (.invokestatic 111, 3) := by decide +kernel
theorem dX6_cheap_149 : decode cX6_cheap 149 = .ok (.iadd, 1) := by decide +kernel
theorem dX6_cheap_150 : decode cX6_cheap 150 = .ok (.istore 4, 2) := by decide +kernel
theorem dX6_cheap_152 : decode cX6_cheap 152 = .ok (.iinc 5 1, 3) := by decide +kernel
theorem dX6_cheap_155 : decode cX6_cheap 155 = .ok (.goto (-123), 3) := by decide +kernel
theorem dX6_cheap_158 : decode cX6_cheap 158 = .ok (.iload 4, 2) := by decide +kernel
theorem dX6_cheap_160 : decode cX6_cheap 160 = .ok (.iload_n 2, 1) := by decide +kernel
theorem dX6_cheap_161 : decode cX6_cheap 161 = .ok (.if_icmp .ge 8, 3) := by decide +kernel
theorem dX6_cheap_164 : decode cX6_cheap 164 = .ok (.iload 4, 2) := by decide +kernel
theorem dX6_cheap_166 : decode cX6_cheap 166 = .ok (.goto 4, 3) := by decide +kernel
theorem dX6_cheap_169 : decode cX6_cheap 169 = .ok (.iload_n 2, 1) := by decide +kernel
theorem dX6_cheap_170 : decode cX6_cheap 170 = .ok (.istore_n 2, 1) := by decide +kernel
theorem dX6_cheap_171 : decode cX6_cheap 171 = .ok (.iinc 3 1, 3) := by decide +kernel
theorem dX6_cheap_174 : decode cX6_cheap 174 = .ok (.goto (-164), 3) := by decide +kernel
theorem dX6_cheap_177 : decode cX6_cheap 177 = .ok (.iload_n 2, 1) := by decide +kernel
theorem dX6_cheap_178 : decode cX6_cheap 178 = .ok (.ldc 172, 2) := by decide +kernel
theorem dX6_cheap_180 : decode cX6_cheap 180 = .ok (.if_icmp .ne 7, 3) := by decide +kernel
theorem dX6_cheap_183 : decode cX6_cheap 183 = .ok (.iconst (-1), 1) := by decide +kernel
theorem dX6_cheap_184 : decode cX6_cheap 184 = .ok (.goto 4, 3) := by decide +kernel
theorem dX6_cheap_187 : decode cX6_cheap 187 = .ok (.iload_n 2, 1) := by decide +kernel
theorem dX6_cheap_188 : decode cX6_cheap 188 = .ok (.ireturn, 1) := by decide +kernel
theorem dX6_seen_0 : decode cX6_seen 0 = .ok (.iload_n 1, 1) := by decide +kernel
theorem dX6_seen_1 : decode cX6_seen 1 = .ok (.i2l, 1) := by decide +kernel
theorem dX6_seen_2 : decode cX6_seen 2 = .ok (.lconst 0, 1) := by decide +kernel
theorem dX6_seen_3 : decode cX6_seen 3 = .ok (.ldc2_w 102, 3) := by decide +kernel
theorem dX6_seen_6 : decode cX6_seen 6 = .ok (.invokestatic 56, 3) := by decide +kernel
theorem dX6_seen_9 : decode cX6_seen 9 = .ok (.ifCond .eq 15, 3) := by decide +kernel
theorem dX6_seen_12 : decode cX6_seen 12 = .ok (.iload_n 2, 1) := by decide +kernel
theorem dX6_seen_13 : decode cX6_seen 13 = .ok (.i2l, 1) := by decide +kernel
theorem dX6_seen_14 : decode cX6_seen 14 = .ok (.lconst 0, 1) := by decide +kernel
theorem dX6_seen_15 : decode cX6_seen 15 = .ok (.ldc2_w 157, 3) := by decide +kernel
theorem dX6_seen_18 : decode cX6_seen 18 = .ok (.invokestatic 56, 3) := by decide +kernel
theorem dX6_seen_21 : decode cX6_seen 21 = .ok (.ifCond .ne 10, 3) := by decide +kernel
theorem dX6_seen_24 : decode cX6_seen 24 = .ok (.aload_n 0, 1) := by decide +kernel
theorem dX6_seen_25 : decode cX6_seen 25 = .ok (.bipush (-2), 2) := by decide +kernel
theorem dX6_seen_27 : decode cX6_seen 27 = .ok (.invokevirtual 71, 3) := by decide +kernel
theorem dX6_seen_30 : decode cX6_seen 30 = .ok (.ireturn, 1) := by decide +kernel
theorem dX6_seen_31 : decode cX6_seen 31 = .ok (.aload_n 0, 1) := by decide +kernel
theorem dX6_seen_32 : decode cX6_seen 32 = .ok (.getfield 7, 3) := by decide +kernel
theorem dX6_seen_35 : decode cX6_seen 35 = .ok (.iconst 3, 1) := by decide +kernel
theorem dX6_seen_36 : decode cX6_seen 36 = .ok (.iaload, 1) := by decide +kernel
theorem dX6_seen_37 : decode cX6_seen 37 = .ok (.iconst 5, 1) := by decide +kernel
theorem dX6_seen_38 : decode cX6_seen 38 = .ok (.if_icmp .ne 8, 3) := by decide +kernel
theorem dX6_seen_41 : decode cX6_seen 41 = .ok (.aload_n 0, 1) := by decide +kernel
theorem dX6_seen_42 : decode cX6_seen 42 = .ok (.invokevirtual 75, 3) := by decide +kernel
theorem dX6_seen_45 : decode cX6_seen 45 = .ok (.ireturn, 1) := by decide +kernel
theorem dX6_seen_46 : decode cX6_seen 46 = .ok (.aload_n 0, 1) := by decide +kernel
theorem dX6_seen_47 : decode cX6_seen 47 = .ok (.getfield 7, 3) := by decide +kernel
theorem dX6_seen_50 : decode cX6_seen 50 = .ok (.bipush 48, 2) := by decide +kernel
theorem dX6_seen_52 : decode cX6_seen 52 = .ok (.iconst 2, 1) := by decide +kernel
theorem dX6_seen_53 : decode cX6_seen 53 = .ok (.aload_n 0, 1) := by decide +kernel
theorem dX6_seen_54 : decode cX6_seen 54 = .ok (.getfield 7, 3) := by decide +kernel
theorem dX6_seen_57 : decode cX6_seen 57 = .ok (.iconst 3, 1) := by decide +kernel
theorem dX6_seen_58 : decode cX6_seen 58 = .ok (.iaload, 1) := by decide +kernel
theorem dX6_seen_59 : decode cX6_seen 59 = .ok (.imul, 1) := by decide +kernel
theorem dX6_seen_60 : decode cX6_seen 60 = .ok (.iadd, 1) := by decide +kernel
theorem dX6_seen_61 : decode cX6_seen 61 = .ok (.iload_n 1, 1) := by decide +kernel
theorem dX6_seen_62 : decode cX6_seen 62 = .ok (.iastore, 1) := by decide +kernel
theorem dX6_seen_63 : decode cX6_seen 63 = .ok (.aload_n 0, 1) := by decide +kernel
theorem dX6_seen_64 : decode cX6_seen 64 = .ok (.getfield 7, 3) := by decide +kernel
theorem dX6_seen_67 : decode cX6_seen 67 = .ok (.bipush 48, 2) := by decide +kernel
theorem dX6_seen_69 : decode cX6_seen 69 = .ok (.iconst 2, 1) := by decide +kernel
theorem dX6_seen_70 : decode cX6_seen 70 = .ok (.aload_n 0, 1) := by decide +kernel
theorem dX6_seen_71 : decode cX6_seen 71 = .ok (.getfield 7, 3) := by decide +kernel
theorem dX6_seen_74 : decode cX6_seen 74 = .ok (.iconst 3, 1) := by decide +kernel
theorem dX6_seen_75 : decode cX6_seen 75 = .ok (.iaload, 1) := by decide +kernel
theorem dX6_seen_76 : decode cX6_seen 76 = .ok (.imul, 1) := by decide +kernel
theorem dX6_seen_77 : decode cX6_seen 77 = .ok (.iadd, 1) := by decide +kernel
theorem dX6_seen_78 : decode cX6_seen 78 = .ok (.iconst 1, 1) := by decide +kernel
theorem dX6_seen_79 : decode cX6_seen 79 = .ok (.iadd, 1) := by decide +kernel
theorem dX6_seen_80 : decode cX6_seen 80 = .ok (.iload_n 2, 1) := by decide +kernel
theorem dX6_seen_81 : decode cX6_seen 81 = .ok (.iastore, 1) := by decide +kernel
theorem dX6_seen_82 : decode cX6_seen 82 = .ok (.aload_n 0, 1) := by decide +kernel
theorem dX6_seen_83 : decode cX6_seen 83 = .ok (.getfield 7, 3) := by decide +kernel
theorem dX6_seen_86 : decode cX6_seen 86 = .ok (.iconst 3, 1) := by decide +kernel
theorem dX6_seen_87 : decode cX6_seen 87 = .ok (.dup2, 1) := by decide +kernel
theorem dX6_seen_88 : decode cX6_seen 88 = .ok (.iaload, 1) := by decide +kernel
theorem dX6_seen_89 : decode cX6_seen 89 = .ok (.iconst 1, 1) := by decide +kernel
theorem dX6_seen_90 : decode cX6_seen 90 = .ok (.iadd, 1) := by decide +kernel
theorem dX6_seen_91 : decode cX6_seen 91 = .ok (.iastore, 1) := by decide +kernel
theorem dX6_seen_92 : decode cX6_seen 92 = .ok (.aload_n 0, 1) := by decide +kernel
theorem dX6_seen_93 : decode cX6_seen 93 = .ok (.getfield 7, 3) := by decide +kernel
theorem dX6_seen_96 : decode cX6_seen 96 = .ok (.iconst 3, 1) := by decide +kernel
theorem dX6_seen_97 : decode cX6_seen 97 = .ok (.iaload, 1) := by decide +kernel
theorem dX6_seen_98 : decode cX6_seen 98 = .ok (.ireturn, 1) := by decide +kernel
theorem dX6_seenOnes_0 : decode cX6_seenOnes 0 = .ok (.iconst 0, 1) := by decide +kernel
theorem dX6_seenOnes_1 : decode cX6_seenOnes 1 = .ok (.istore_n 1, 1) := by decide +kernel
theorem dX6_seenOnes_2 : decode cX6_seenOnes 2 = .ok (.iconst 0, 1) := by decide +kernel
theorem dX6_seenOnes_3 : decode cX6_seenOnes 3 = .ok (.istore_n 2, 1) := by decide +kernel
theorem dX6_seenOnes_4 : decode cX6_seenOnes 4 = .ok (.iload_n 2, 1) := by decide +kernel
theorem dX6_seenOnes_5 : decode cX6_seenOnes 5 = .ok (.aload_n 0, 1) := by decide +kernel
theorem dX6_seenOnes_6 : decode cX6_seenOnes 6 = .ok (.invokevirtual 52, 3) := by decide +kernel
theorem dX6_seenOnes_9 : decode cX6_seenOnes 9 = .ok (.if_icmp .ge 105, 3) := by decide +kernel
theorem dX6_seenOnes_12 : decode cX6_seenOnes 12 = .ok (.iconst 1, 1) := by decide +kernel
theorem dX6_seenOnes_13 : decode cX6_seenOnes 13 = .ok (.istore_n 3, 1) := by decide +kernel
theorem dX6_seenOnes_14 : decode cX6_seenOnes 14 = .ok (.iconst 0, 1) := by decide +kernel
theorem dX6_seenOnes_15 : decode cX6_seenOnes 15 = .ok (.istore 4, 2) := by decide +kernel
theorem dX6_seenOnes_17 : decode cX6_seenOnes 17 = .ok (.iload 4, 2) := by decide +kernel
theorem dX6_seenOnes_19 : decode cX6_seenOnes 19 = .ok (.aload_n 0, 1) := by decide +kernel
theorem dX6_seenOnes_20 : decode cX6_seenOnes 20 = .ok (.getfield 7, 3) := by decide +kernel
theorem dX6_seenOnes_23 : decode cX6_seenOnes 23 = .ok (.iconst 3, 1) := by decide +kernel
theorem dX6_seenOnes_24 : decode cX6_seenOnes 24 = .ok (.iaload, 1) := by decide +kernel
theorem dX6_seenOnes_25 : decode cX6_seenOnes 25 = .ok (.if_icmp .ge 69, 3) := by decide +kernel
theorem dX6_seenOnes_28 : decode cX6_seenOnes 28 = .ok (.iload_n 3, 1) := by decide +kernel
theorem dX6_seenOnes_29 : decode cX6_seenOnes 29 = .ok (.ifCond .eq 57, 3) := by decide +kernel
theorem dX6_seenOnes_32 : decode cX6_seenOnes 32 = .ok (.aload_n 0, 1) := by decide +kernel
theorem dX6_seenOnes_33 : decode cX6_seenOnes 33 = .ok (.getfield 7, 3) := by decide +kernel
theorem dX6_seenOnes_36 : decode cX6_seenOnes 36 = .ok (.bipush 26, 2) := by decide +kernel
theorem dX6_seenOnes_38 : decode cX6_seenOnes 38 = .ok (.iload_n 2, 1) := by decide +kernel
theorem dX6_seenOnes_39 : decode cX6_seenOnes 39 = .ok (.iadd, 1) := by decide +kernel
theorem dX6_seenOnes_40 : decode cX6_seenOnes 40 = .ok (.iaload, 1) := by decide +kernel
theorem dX6_seenOnes_41 : decode cX6_seenOnes 41 = .ok (.aload_n 0, 1) := by decide +kernel
theorem dX6_seenOnes_42 : decode cX6_seenOnes 42 = .ok (.getfield 7, 3) := by decide +kernel
theorem dX6_seenOnes_45 : decode cX6_seenOnes 45 = .ok (.bipush 33, 2) := by decide +kernel
theorem dX6_seenOnes_47 : decode cX6_seenOnes 47 = .ok (.iload_n 2, 1) := by decide +kernel
theorem dX6_seenOnes_48 : decode cX6_seenOnes 48 = .ok (.iadd, 1) := by decide +kernel
theorem dX6_seenOnes_49 : decode cX6_seenOnes 49 = .ok (.iaload, 1) := by decide +kernel
theorem dX6_seenOnes_50 : decode cX6_seenOnes 50 = .ok (.aload_n 0, 1) := by decide +kernel
theorem dX6_seenOnes_51 : decode cX6_seenOnes 51 = .ok (.getfield 7, 3) := by decide +kernel
theorem dX6_seenOnes_54 : decode cX6_seenOnes 54 = .ok (.bipush 48, 2) := by decide +kernel
theorem dX6_seenOnes_56 : decode cX6_seenOnes 56 = .ok (.iconst 2, 1) := by decide +kernel
theorem dX6_seenOnes_57 : decode cX6_seenOnes 57 = .ok (.iload 4, 2) := by decide +kernel
theorem dX6_seenOnes_59 : decode cX6_seenOnes 59 = .ok (.imul, 1) := by decide +kernel
theorem dX6_seenOnes_60 : decode cX6_seenOnes 60 = .ok (.iadd, 1) := by decide +kernel
theorem dX6_seenOnes_61 : decode cX6_seenOnes 61 = .ok (.iaload, 1) := by decide +kernel
theorem dX6_seenOnes_62 : decode cX6_seenOnes 62 = .ok (.invokestatic 84, 3) := by decide +kernel
theorem dX6_seenOnes_65 : decode cX6_seenOnes 65 = .ok (.aload_n 0, 1) := by decide +kernel
theorem dX6_seenOnes_66 : decode cX6_seenOnes 66 = .ok (.getfield 7, 3) := by decide +kernel
theorem dX6_seenOnes_69 : decode cX6_seenOnes 69 = .ok (.bipush 48, 2) := by decide +kernel
theorem dX6_seenOnes_71 : decode cX6_seenOnes 71 = .ok (.iconst 2, 1) := by decide +kernel
theorem dX6_seenOnes_72 : decode cX6_seenOnes 72 = .ok (.iload 4, 2) := by decide +kernel
theorem dX6_seenOnes_74 : decode cX6_seenOnes 74 = .ok (.imul, 1) := by decide +kernel
theorem dX6_seenOnes_75 : decode cX6_seenOnes 75 = .ok (.iadd, 1) := by decide +kernel
theorem dX6_seenOnes_76 : decode cX6_seenOnes 76 = .ok (.iconst 1, 1) := by decide +kernel
theorem dX6_seenOnes_77 : decode cX6_seenOnes 77 = .ok (.iadd, 1) := by decide +kernel
theorem dX6_seenOnes_78 : decode cX6_seenOnes 78 = .ok (.iaload, 1) := by decide +kernel
theorem dX6_seenOnes_79 : decode cX6_seenOnes 79 = .ok (.if_icmp .ne 7, 3) := by decide +kernel
theorem dX6_seenOnes_82 : decode cX6_seenOnes 82 = .ok (.iconst 1, 1) := by decide +kernel
theorem dX6_seenOnes_83 : decode cX6_seenOnes 83 = .ok (.goto 4, 3) := by decide +kernel
theorem dX6_seenOnes_86 : decode cX6_seenOnes 86 = .ok (.iconst 0, 1) := by decide +kernel
theorem dX6_seenOnes_87 : decode cX6_seenOnes 87 = .ok (.istore_n 3, 1) := by decide +kernel
theorem dX6_seenOnes_88 : decode cX6_seenOnes 88 = .ok (.iinc 4 1, 3) := by decide +kernel
theorem dX6_seenOnes_91 : decode cX6_seenOnes 91 = .ok (.goto (-74), 3) := by decide +kernel
theorem dX6_seenOnes_94 : decode cX6_seenOnes 94 = .ok (.iload_n 1, 1) := by decide +kernel
theorem dX6_seenOnes_95 : decode cX6_seenOnes 95 = .ok (.iload_n 3, 1) := by decide +kernel
theorem dX6_seenOnes_96 : decode cX6_seenOnes 96 = .ok (.ifCond .eq 9, 3) := by decide +kernel
theorem dX6_seenOnes_99 : decode cX6_seenOnes 99 = .ok (.iconst 1, 1) := by decide +kernel
theorem dX6_seenOnes_100 : decode cX6_seenOnes 100 = .ok (.iload_n 2, 1) := by decide +kernel
theorem dX6_seenOnes_101 : decode cX6_seenOnes 101 = .ok (.ishl, 1) := by decide +kernel
theorem dX6_seenOnes_102 : decode cX6_seenOnes 102 = .ok (.goto 4, 3) := by decide +kernel
theorem dX6_seenOnes_105 : decode cX6_seenOnes 105 = .ok (.iconst 0, 1) := by decide +kernel
theorem dX6_seenOnes_106 : decode cX6_seenOnes 106 = .ok (.ior, 1) := by decide +kernel
theorem dX6_seenOnes_107 : decode cX6_seenOnes 107 = .ok (.istore_n 1, 1) := by decide +kernel
theorem dX6_seenOnes_108 : decode cX6_seenOnes 108 = .ok (.iinc 2 1, 3) := by decide +kernel
theorem dX6_seenOnes_111 : decode cX6_seenOnes 111 = .ok (.goto (-107), 3) := by decide +kernel
theorem dX6_seenOnes_114 : decode cX6_seenOnes 114 = .ok (.iload_n 1, 1) := by decide +kernel
theorem dX6_seenOnes_115 : decode cX6_seenOnes 115 = .ok (.ireturn, 1) := by decide +kernel
theorem dX6_which_0 : decode cX6_which 0 = .ok (.aload_n 0, 1) := by decide +kernel
theorem dX6_which_1 : decode cX6_which 1 = .ok (.invokevirtual 173, 3) := by decide +kernel
theorem dX6_which_4 : decode cX6_which 4 = .ok (.ireturn, 1) := by decide +kernel
theorem dX6_mostAlike_0 : decode cX6_mostAlike 0 = .ok (.iconst 0, 1) := by decide +kernel
theorem dX6_mostAlike_1 : decode cX6_mostAlike 1 = .ok (.istore_n 2, 1) := by decide +kernel
theorem dX6_mostAlike_2 : decode cX6_mostAlike 2 = .ok (.iconst 0, 1) := by decide +kernel
theorem dX6_mostAlike_3 : decode cX6_mostAlike 3 = .ok (.istore_n 3, 1) := by decide +kernel
theorem dX6_mostAlike_4 : decode cX6_mostAlike 4 = .ok (.iload_n 3, 1) := by decide +kernel
theorem dX6_mostAlike_5 : decode cX6_mostAlike 5 = .ok (.bipush 7, 2) := by decide +kernel
theorem dX6_mostAlike_7 : decode cX6_mostAlike 7 = .ok (.if_icmp .ge 84, 3) := by decide +kernel
theorem dX6_mostAlike_10 : decode cX6_mostAlike 10 = .ok (.iconst 0, 1) := by decide +kernel
theorem dX6_mostAlike_11 : decode cX6_mostAlike 11 = .ok (.istore 4, 2) := by decide +kernel
theorem dX6_mostAlike_13 : decode cX6_mostAlike 13 = .ok (.iconst 0, 1) := by decide +kernel
theorem dX6_mostAlike_14 : decode cX6_mostAlike 14 = .ok (.istore 5, 2) := by decide +kernel
theorem dX6_mostAlike_16 : decode cX6_mostAlike 16 = .ok (.iload 5, 2) := by decide +kernel
theorem dX6_mostAlike_18 : decode cX6_mostAlike 18 = .ok (.bipush 7, 2) := by decide +kernel
theorem dX6_mostAlike_20 : decode cX6_mostAlike 20 = .ok (.if_icmp .ge 52, 3) := by decide +kernel
theorem dX6_mostAlike_23 : decode cX6_mostAlike 23 = .ok (.iload_n 1, 1) := by decide +kernel
theorem dX6_mostAlike_24 : decode cX6_mostAlike 24 = .ok (.iload_n 3, 1) := by decide +kernel
theorem dX6_mostAlike_25 : decode cX6_mostAlike 25 = .ok (.invokestatic 162, 3) := by decide +kernel
theorem dX6_mostAlike_28 : decode cX6_mostAlike 28 = .ok (.ifCond .eq 44, 3) := by decide +kernel
theorem dX6_mostAlike_31 : decode cX6_mostAlike 31 = .ok (.iload 4, 2) := by decide +kernel
theorem dX6_mostAlike_33 : decode cX6_mostAlike 33 = .ok (.iload_n 1, 1) := by decide +kernel
theorem dX6_mostAlike_34 : decode cX6_mostAlike 34 = .ok (.iload 5, 2) := by decide +kernel
theorem dX6_mostAlike_36 : decode cX6_mostAlike 36 = .ok (.invokestatic 162, 3) := by decide +kernel
theorem dX6_mostAlike_39 : decode cX6_mostAlike 39 = .ok (.ifCond .eq 23, 3) := by decide +kernel
theorem dX6_mostAlike_42 : decode cX6_mostAlike 42 = .ok (.aload_n 0, 1) := by decide +kernel
theorem dX6_mostAlike_43 : decode cX6_mostAlike 43 = .ok (.getfield 33, 3) := by decide +kernel
theorem dX6_mostAlike_46 : decode cX6_mostAlike 46 = .ok (.iload_n 3, 1) := by decide +kernel
theorem dX6_mostAlike_47 : decode cX6_mostAlike 47 = .ok (.iaload, 1) := by decide +kernel
theorem dX6_mostAlike_48 : decode cX6_mostAlike 48 = .ok (.aload_n 0, 1) := by decide +kernel
theorem dX6_mostAlike_49 : decode cX6_mostAlike 49 = .ok (.getfield 33, 3) := by decide +kernel
theorem dX6_mostAlike_52 : decode cX6_mostAlike 52 = .ok (.iload 5, 2) := by decide +kernel
theorem dX6_mostAlike_54 : decode cX6_mostAlike 54 = .ok (.iaload, 1) := by decide +kernel
theorem dX6_mostAlike_55 : decode cX6_mostAlike 55 = .ok (.if_icmp .ne 7, 3) := by decide +kernel
theorem dX6_mostAlike_58 : decode cX6_mostAlike 58 = .ok (.iconst 1, 1) := by decide +kernel
theorem dX6_mostAlike_59 : decode cX6_mostAlike 59 = .ok (.goto 4, 3) := by decide +kernel
theorem dX6_mostAlike_62 : decode cX6_mostAlike 62 = .ok (.iconst 0, 1) := by decide +kernel
theorem dX6_mostAlike_63 : decode cX6_mostAlike 63 = .ok (.iadd, 1) := by decide +kernel
theorem dX6_mostAlike_64 : decode cX6_mostAlike 64 = .ok (.istore 4, 2) := by decide +kernel
theorem dX6_mostAlike_66 : decode cX6_mostAlike 66 = .ok (.iinc 5 1, 3) := by decide +kernel
theorem dX6_mostAlike_69 : decode cX6_mostAlike 69 = .ok (.goto (-53), 3) := by decide +kernel
theorem dX6_mostAlike_72 : decode cX6_mostAlike 72 = .ok (.iload 4, 2) := by decide +kernel
theorem dX6_mostAlike_74 : decode cX6_mostAlike 74 = .ok (.iload_n 2, 1) := by decide +kernel
theorem dX6_mostAlike_75 : decode cX6_mostAlike 75 = .ok (.if_icmp .le 8, 3) := by decide +kernel
theorem dX6_mostAlike_78 : decode cX6_mostAlike 78 = .ok (.iload 4, 2) := by decide +kernel
theorem dX6_mostAlike_80 : decode cX6_mostAlike 80 = .ok (.goto 4, 3) := by decide +kernel
theorem dX6_mostAlike_83 : decode cX6_mostAlike 83 = .ok (.iload_n 2, 1) := by decide +kernel
theorem dX6_mostAlike_84 : decode cX6_mostAlike 84 = .ok (.istore_n 2, 1) := by decide +kernel
theorem dX6_mostAlike_85 : decode cX6_mostAlike 85 = .ok (.iinc 3 1, 3) := by decide +kernel
theorem dX6_mostAlike_88 : decode cX6_mostAlike 88 = .ok (.goto (-84), 3) := by decide +kernel
theorem dX6_mostAlike_91 : decode cX6_mostAlike 91 = .ok (.iload_n 2, 1) := by decide +kernel
theorem dX6_mostAlike_92 : decode cX6_mostAlike 92 = .ok (.ireturn, 1) := by decide +kernel
theorem dX6_tell_0 : decode cX6_tell 0 = .ok (.aload_n 0, 1) := by decide +kernel
theorem dX6_tell_1 : decode cX6_tell 1 = .ok (.invokevirtual 173, 3) := by decide +kernel
theorem dX6_tell_4 : decode cX6_tell 4 = .ok (.istore_n 1, 1) := by decide +kernel
theorem dX6_tell_5 : decode cX6_tell 5 = .ok (.iconst (-1), 1) := by decide +kernel
theorem dX6_tell_6 : decode cX6_tell 6 = .ok (.istore_n 2, 1) := by decide +kernel
theorem dX6_tell_7 : decode cX6_tell 7 = .ok (.ldc 172, 2) := by decide +kernel
theorem dX6_tell_9 : decode cX6_tell 9 = .ok (.istore_n 3, 1) := by decide +kernel
theorem dX6_tell_10 : decode cX6_tell 10 = .ok (.iconst 0, 1) := by decide +kernel
theorem dX6_tell_11 : decode cX6_tell 11 = .ok (.istore 4, 2) := by decide +kernel
theorem dX6_tell_13 : decode cX6_tell 13 = .ok (.iload 4, 2) := by decide +kernel
theorem dX6_tell_15 : decode cX6_tell 15 = .ok (.bipush 30, 2) := by decide +kernel
theorem dX6_tell_17 : decode cX6_tell 17 = .ok (.if_icmp .gt 96, 3) := by decide +kernel
theorem dX6_tell_20 : decode cX6_tell 20 = .ok (.iload_n 1, 1) := by decide +kernel
theorem dX6_tell_21 : decode cX6_tell 21 = .ok (.ifCond .eq 92, 3) := by decide +kernel
theorem dX6_tell_24 : decode cX6_tell 24 = .ok (.iconst 0, 1) := by decide +kernel
theorem dX6_tell_25 : decode cX6_tell 25 = .ok (.istore 5, 2) := by decide +kernel
theorem dX6_tell_27 : decode cX6_tell 27 = .ok (.iload 5, 2) := by decide +kernel
theorem dX6_tell_29 : decode cX6_tell 29 = .ok (.aload_n 0, 1) := by decide +kernel
theorem dX6_tell_30 : decode cX6_tell 30 = .ok (.invokevirtual 52, 3) := by decide +kernel
theorem dX6_tell_33 : decode cX6_tell 33 = .ok (.if_icmp .ge 41, 3) := by decide +kernel
theorem dX6_tell_36 : decode cX6_tell 36 = .ok (.aload_n 0, 1) := by decide +kernel
theorem dX6_tell_37 : decode cX6_tell 37 = .ok (.getfield 33, 3) := by decide +kernel
theorem dX6_tell_40 : decode cX6_tell 40 = .ok (.iload 5, 2) := by decide +kernel
theorem dX6_tell_42 : decode cX6_tell 42 = .ok (.aload_n 0, 1) := by decide +kernel
theorem dX6_tell_43 : decode cX6_tell 43 = .ok (.getfield 7, 3) := by decide +kernel
theorem dX6_tell_46 : decode cX6_tell 46 = .ok (.bipush 26, 2) := by decide +kernel
theorem dX6_tell_48 : decode cX6_tell 48 = .ok (.iload 5, 2) := by decide +kernel
theorem dX6_tell_50 : decode cX6_tell 50 = .ok (.iadd, 1) := by decide +kernel
theorem dX6_tell_51 : decode cX6_tell 51 = .ok (.iaload, 1) := by decide +kernel
theorem dX6_tell_52 : decode cX6_tell 52 = .ok (.aload_n 0, 1) := by decide +kernel
theorem dX6_tell_53 : decode cX6_tell 53 = .ok (.getfield 7, 3) := by decide +kernel
theorem dX6_tell_56 : decode cX6_tell 56 = .ok (.bipush 33, 2) := by decide +kernel
theorem dX6_tell_58 : decode cX6_tell 58 = .ok (.iload 5, 2) := by decide +kernel
theorem dX6_tell_60 : decode cX6_tell 60 = .ok (.iadd, 1) := by decide +kernel
theorem dX6_tell_61 : decode cX6_tell 61 = .ok (.iaload, 1) := by decide +kernel
theorem dX6_tell_62 : decode cX6_tell 62 = .ok (.iload 4, 2) := by decide +kernel
theorem dX6_tell_64 : decode cX6_tell 64 = .ok (.invokestatic 84, 3) := by decide +kernel
theorem dX6_tell_67 : decode cX6_tell 67 = .ok (.iastore, 1) := by decide +kernel
theorem dX6_tell_68 : decode cX6_tell 68 = .ok (.iinc 5 1, 3) := by decide +kernel
theorem dX6_tell_71 : decode cX6_tell 71 = .ok (.goto (-44), 3) := by decide +kernel
theorem dX6_tell_74 : decode cX6_tell 74 = .ok (.aload_n 0, 1) := by decide +kernel
theorem dX6_tell_75 : decode cX6_tell 75 = .ok (.iload_n 1, 1) := by decide +kernel
theorem dX6_tell_76 : decode cX6_tell 76 = .ok (.invokevirtual 176, 3) := by decide +kernel
theorem dX6_tell_79 : decode cX6_tell 79 = .ok (.istore 5, 2) := by decide +kernel
theorem dX6_tell_81 : decode cX6_tell 81 = .ok (.iload 5, 2) := by decide +kernel
theorem dX6_tell_83 : decode cX6_tell 83 = .ok (.iload_n 3, 1) := by decide +kernel
theorem dX6_tell_84 : decode cX6_tell 84 = .ok (.if_icmp .ge 8, 3) := by decide +kernel
theorem dX6_tell_87 : decode cX6_tell 87 = .ok (.iload 4, 2) := by decide +kernel
theorem dX6_tell_89 : decode cX6_tell 89 = .ok (.goto 4, 3) := by decide +kernel
theorem dX6_tell_92 : decode cX6_tell 92 = .ok (.iload_n 2, 1) := by decide +kernel
theorem dX6_tell_93 : decode cX6_tell 93 = .ok (.istore_n 2, 1) := by decide +kernel
theorem dX6_tell_94 : decode cX6_tell 94 = .ok (.iload 5, 2) := by decide +kernel
theorem dX6_tell_96 : decode cX6_tell 96 = .ok (.iload_n 3, 1) := by decide +kernel
theorem dX6_tell_97 : decode cX6_tell 97 = .ok (.if_icmp .ge 8, 3) := by decide +kernel
theorem dX6_tell_100 : decode cX6_tell 100 = .ok (.iload 5, 2) := by decide +kernel
theorem dX6_tell_102 : decode cX6_tell 102 = .ok (.goto 4, 3) := by decide +kernel
theorem dX6_tell_105 : decode cX6_tell 105 = .ok (.iload_n 3, 1) := by decide +kernel
theorem dX6_tell_106 : decode cX6_tell 106 = .ok (.istore_n 3, 1) := by decide +kernel
theorem dX6_tell_107 : decode cX6_tell 107 = .ok (.iinc 4 1, 3) := by decide +kernel
theorem dX6_tell_110 : decode cX6_tell 110 = .ok (.goto (-97), 3) := by decide +kernel
theorem dX6_tell_113 : decode cX6_tell 113 = .ok (.iload_n 2, 1) := by decide +kernel
theorem dX6_tell_114 : decode cX6_tell 114 = .ok (.ireturn, 1) := by decide +kernel
theorem dX6_layFour_0 : decode cX6_layFour 0 = .ok (.aload_n 0, 1) := by decide +kernel
theorem dX6_layFour_1 : decode cX6_layFour 1 = .ok (.getfield 7, 3) := by decide +kernel
theorem dX6_layFour_4 : decode cX6_layFour 4 = .ok (.iload_n 1, 1) := by decide +kernel
theorem dX6_layFour_5 : decode cX6_layFour 5 = .ok (.iload_n 2, 1) := by decide +kernel
theorem dX6_layFour_6 : decode cX6_layFour 6 = .ok (.iastore, 1) := by decide +kernel
theorem dX6_layFour_7 : decode cX6_layFour 7 = .ok (.aload_n 0, 1) := by decide +kernel
theorem dX6_layFour_8 : decode cX6_layFour 8 = .ok (.getfield 7, 3) := by decide +kernel
theorem dX6_layFour_11 : decode cX6_layFour 11 = .ok (.iload_n 1, 1) := by decide +kernel
theorem dX6_layFour_12 : decode cX6_layFour 12 = .ok (.iconst 1, 1) := by decide +kernel
theorem dX6_layFour_13 : decode cX6_layFour 13 = .ok (.iadd, 1) := by decide +kernel
theorem dX6_layFour_14 : decode cX6_layFour 14 = .ok (.iload_n 3, 1) := by decide +kernel
theorem dX6_layFour_15 : decode cX6_layFour 15 = .ok (.iastore, 1) := by decide +kernel
theorem dX6_layFour_16 : decode cX6_layFour 16 = .ok (.aload_n 0, 1) := by decide +kernel
theorem dX6_layFour_17 : decode cX6_layFour 17 = .ok (.getfield 7, 3) := by decide +kernel
theorem dX6_layFour_20 : decode cX6_layFour 20 = .ok (.iload_n 1, 1) := by decide +kernel
theorem dX6_layFour_21 : decode cX6_layFour 21 = .ok (.iconst 2, 1) := by decide +kernel
theorem dX6_layFour_22 : decode cX6_layFour 22 = .ok (.iadd, 1) := by decide +kernel
theorem dX6_layFour_23 : decode cX6_layFour 23 = .ok (.iload 4, 2) := by decide +kernel
theorem dX6_layFour_25 : decode cX6_layFour 25 = .ok (.iastore, 1) := by decide +kernel
theorem dX6_layFour_26 : decode cX6_layFour 26 = .ok (.aload_n 0, 1) := by decide +kernel
theorem dX6_layFour_27 : decode cX6_layFour 27 = .ok (.getfield 7, 3) := by decide +kernel
theorem dX6_layFour_30 : decode cX6_layFour 30 = .ok (.iload_n 1, 1) := by decide +kernel
theorem dX6_layFour_31 : decode cX6_layFour 31 = .ok (.iconst 3, 1) := by decide +kernel
theorem dX6_layFour_32 : decode cX6_layFour 32 = .ok (.iadd, 1) := by decide +kernel
theorem dX6_layFour_33 : decode cX6_layFour 33 = .ok (.iload 5, 2) := by decide +kernel
theorem dX6_layFour_35 : decode cX6_layFour 35 = .ok (.iastore, 1) := by decide +kernel
theorem dX6_layFour_36 : decode cX6_layFour 36 = .ok (.return_, 1) := by decide +kernel
theorem dX6_note_0 : decode cX6_note 0 = .ok (.aload_n 0, 1) := by decide +kernel
theorem dX6_note_1 : decode cX6_note 1 = .ok (.iload_n 1, 1) := by decide +kernel
theorem dX6_note_2 : decode cX6_note 2 = .ok (.invokevirtual 121, 3) := by decide +kernel
theorem dX6_note_5 : decode cX6_note 5 = .ok (.ifCond .eq 35, 3) := by decide +kernel
theorem dX6_note_8 : decode cX6_note 8 = .ok (.iload_n 2, 1) := by decide +kernel
theorem dX6_note_9 : decode cX6_note 9 = .ok (.invokestatic 68, 3) := by decide +kernel
theorem dX6_note_12 : decode cX6_note 12 = .ok (.ifCond .eq 28, 3) := by decide +kernel
theorem dX6_note_15 : decode cX6_note 15 = .ok (.iload_n 3, 1) := by decide +kernel
theorem dX6_note_16 : decode cX6_note 16 = .ok (.i2l, 1) := by decide +kernel
theorem dX6_note_17 : decode cX6_note 17 = .ok (.lconst 0, 1) := by decide +kernel
theorem dX6_note_18 : decode cX6_note 18 = .ok (.ldc2_w 102, 3) := by decide +kernel
theorem dX6_note_21 : decode cX6_note 21 = .ok (.invokestatic 56, 3) := by decide +kernel
theorem dX6_note_24 : decode cX6_note 24 = .ok (.ifCond .eq 16, 3) := by decide +kernel
theorem dX6_note_27 : decode cX6_note 27 = .ok (.iload 4, 2) := by decide +kernel
theorem dX6_note_29 : decode cX6_note 29 = .ok (.i2l, 1) := by decide +kernel
theorem dX6_note_30 : decode cX6_note 30 = .ok (.lconst 0, 1) := by decide +kernel
theorem dX6_note_31 : decode cX6_note 31 = .ok (.ldc2_w 157, 3) := by decide +kernel
theorem dX6_note_34 : decode cX6_note 34 = .ok (.invokestatic 56, 3) := by decide +kernel
theorem dX6_note_37 : decode cX6_note 37 = .ok (.ifCond .ne 10, 3) := by decide +kernel
theorem dX6_note_40 : decode cX6_note 40 = .ok (.aload_n 0, 1) := by decide +kernel
theorem dX6_note_41 : decode cX6_note 41 = .ok (.bipush (-2), 2) := by decide +kernel
theorem dX6_note_43 : decode cX6_note 43 = .ok (.invokevirtual 71, 3) := by decide +kernel
theorem dX6_note_46 : decode cX6_note 46 = .ok (.ireturn, 1) := by decide +kernel
theorem dX6_note_47 : decode cX6_note 47 = .ok (.aload_n 0, 1) := by decide +kernel
theorem dX6_note_48 : decode cX6_note 48 = .ok (.getfield 7, 3) := by decide +kernel
theorem dX6_note_51 : decode cX6_note 51 = .ok (.iconst 4, 1) := by decide +kernel
theorem dX6_note_52 : decode cX6_note 52 = .ok (.iaload, 1) := by decide +kernel
theorem dX6_note_53 : decode cX6_note 53 = .ok (.bipush 6, 2) := by decide +kernel
theorem dX6_note_55 : decode cX6_note 55 = .ok (.if_icmp .ne 8, 3) := by decide +kernel
theorem dX6_note_58 : decode cX6_note 58 = .ok (.aload_n 0, 1) := by decide +kernel
theorem dX6_note_59 : decode cX6_note 59 = .ok (.invokevirtual 75, 3) := by decide +kernel
theorem dX6_note_62 : decode cX6_note 62 = .ok (.ireturn, 1) := by decide +kernel
theorem dX6_note_63 : decode cX6_note 63 = .ok (.aload_n 0, 1) := by decide +kernel
theorem dX6_note_64 : decode cX6_note 64 = .ok (.bipush 58, 2) := by decide +kernel
theorem dX6_note_66 : decode cX6_note 66 = .ok (.iconst 4, 1) := by decide +kernel
theorem dX6_note_67 : decode cX6_note 67 = .ok (.aload_n 0, 1) := by decide +kernel
theorem dX6_note_68 : decode cX6_note 68 = .ok (.getfield 7, 3) := by decide +kernel
theorem dX6_note_71 : decode cX6_note 71 = .ok (.iconst 4, 1) := by decide +kernel
theorem dX6_note_72 : decode cX6_note 72 = .ok (.iaload, 1) := by decide +kernel
theorem dX6_note_73 : decode cX6_note 73 = .ok (.imul, 1) := by decide +kernel
theorem dX6_note_74 : decode cX6_note 74 = .ok (.iadd, 1) := by decide +kernel
theorem dX6_note_75 : decode cX6_note 75 = .ok (.iload_n 1, 1) := by decide +kernel
theorem dX6_note_76 : decode cX6_note 76 = .ok (.iload_n 2, 1) := by decide +kernel
theorem dX6_note_77 : decode cX6_note 77 = .ok (.iload_n 3, 1) := by decide +kernel
theorem dX6_note_78 : decode cX6_note 78 = .ok (.iload 4, 2) := by decide +kernel
theorem dX6_note_80 : decode cX6_note 80 = .ok (.invokevirtual 179, 3) := by decide +kernel
theorem dX6_note_83 : decode cX6_note 83 = .ok (.aload_n 0, 1) := by decide +kernel
theorem dX6_note_84 : decode cX6_note 84 = .ok (.getfield 7, 3) := by decide +kernel
theorem dX6_note_87 : decode cX6_note 87 = .ok (.iconst 4, 1) := by decide +kernel
theorem dX6_note_88 : decode cX6_note 88 = .ok (.dup2, 1) := by decide +kernel
theorem dX6_note_89 : decode cX6_note 89 = .ok (.iaload, 1) := by decide +kernel
theorem dX6_note_90 : decode cX6_note 90 = .ok (.iconst 1, 1) := by decide +kernel
theorem dX6_note_91 : decode cX6_note 91 = .ok (.iadd, 1) := by decide +kernel
theorem dX6_note_92 : decode cX6_note 92 = .ok (.iastore, 1) := by decide +kernel
theorem dX6_note_93 : decode cX6_note 93 = .ok (.aload_n 0, 1) := by decide +kernel
theorem dX6_note_94 : decode cX6_note 94 = .ok (.getfield 7, 3) := by decide +kernel
theorem dX6_note_97 : decode cX6_note 97 = .ok (.iconst 4, 1) := by decide +kernel
theorem dX6_note_98 : decode cX6_note 98 = .ok (.iaload, 1) := by decide +kernel
theorem dX6_note_99 : decode cX6_note 99 = .ok (.ireturn, 1) := by decide +kernel
theorem dX6_mark_0 : decode cX6_mark 0 = .ok (.aload_n 0, 1) := by decide +kernel
theorem dX6_mark_1 : decode cX6_mark 1 = .ok (.iload_n 1, 1) := by decide +kernel
theorem dX6_mark_2 : decode cX6_mark 2 = .ok (.invokevirtual 134, 3) := by decide +kernel
theorem dX6_mark_5 : decode cX6_mark 5 = .ok (.ifCond .eq 35, 3) := by decide +kernel
theorem dX6_mark_8 : decode cX6_mark 8 = .ok (.iload_n 2, 1) := by decide +kernel
theorem dX6_mark_9 : decode cX6_mark 9 = .ok (.invokestatic 68, 3) := by decide +kernel
theorem dX6_mark_12 : decode cX6_mark 12 = .ok (.ifCond .eq 28, 3) := by decide +kernel
theorem dX6_mark_15 : decode cX6_mark 15 = .ok (.iload_n 3, 1) := by decide +kernel
theorem dX6_mark_16 : decode cX6_mark 16 = .ok (.i2l, 1) := by decide +kernel
theorem dX6_mark_17 : decode cX6_mark 17 = .ok (.lconst 0, 1) := by decide +kernel
theorem dX6_mark_18 : decode cX6_mark 18 = .ok (.ldc2_w 157, 3) := by decide +kernel
theorem dX6_mark_21 : decode cX6_mark 21 = .ok (.invokestatic 56, 3) := by decide +kernel
theorem dX6_mark_24 : decode cX6_mark 24 = .ok (.ifCond .eq 16, 3) := by decide +kernel
theorem dX6_mark_27 : decode cX6_mark 27 = .ok (.iload 4, 2) := by decide +kernel
theorem dX6_mark_29 : decode cX6_mark 29 = .ok (.i2l, 1) := by decide +kernel
theorem dX6_mark_30 : decode cX6_mark 30 = .ok (.lconst 0, 1) := by decide +kernel
theorem dX6_mark_31 : decode cX6_mark 31 = .ok (.ldc2_w 183, 3) := by decide +kernel
theorem dX6_mark_34 : decode cX6_mark 34 = .ok (.invokestatic 56, 3) := by decide +kernel
theorem dX6_mark_37 : decode cX6_mark 37 = .ok (.ifCond .ne 10, 3) := by decide +kernel
theorem dX6_mark_40 : decode cX6_mark 40 = .ok (.aload_n 0, 1) := by decide +kernel
theorem dX6_mark_41 : decode cX6_mark 41 = .ok (.bipush (-2), 2) := by decide +kernel
theorem dX6_mark_43 : decode cX6_mark 43 = .ok (.invokevirtual 71, 3) := by decide +kernel
theorem dX6_mark_46 : decode cX6_mark 46 = .ok (.ireturn, 1) := by decide +kernel
theorem dX6_mark_47 : decode cX6_mark 47 = .ok (.aload_n 0, 1) := by decide +kernel
theorem dX6_mark_48 : decode cX6_mark 48 = .ok (.getfield 7, 3) := by decide +kernel
theorem dX6_mark_51 : decode cX6_mark 51 = .ok (.iconst 5, 1) := by decide +kernel
theorem dX6_mark_52 : decode cX6_mark 52 = .ok (.iaload, 1) := by decide +kernel
theorem dX6_mark_53 : decode cX6_mark 53 = .ok (.bipush 6, 2) := by decide +kernel
theorem dX6_mark_55 : decode cX6_mark 55 = .ok (.if_icmp .ne 8, 3) := by decide +kernel
theorem dX6_mark_58 : decode cX6_mark 58 = .ok (.aload_n 0, 1) := by decide +kernel
theorem dX6_mark_59 : decode cX6_mark 59 = .ok (.invokevirtual 75, 3) := by decide +kernel
theorem dX6_mark_62 : decode cX6_mark 62 = .ok (.ireturn, 1) := by decide +kernel
theorem dX6_mark_63 : decode cX6_mark 63 = .ok (.aload_n 0, 1) := by decide +kernel
theorem dX6_mark_64 : decode cX6_mark 64 = .ok (.bipush 82, 2) := by decide +kernel
theorem dX6_mark_66 : decode cX6_mark 66 = .ok (.iconst 4, 1) := by decide +kernel
theorem dX6_mark_67 : decode cX6_mark 67 = .ok (.aload_n 0, 1) := by decide +kernel
theorem dX6_mark_68 : decode cX6_mark 68 = .ok (.getfield 7, 3) := by decide +kernel
theorem dX6_mark_71 : decode cX6_mark 71 = .ok (.iconst 5, 1) := by decide +kernel
theorem dX6_mark_72 : decode cX6_mark 72 = .ok (.iaload, 1) := by decide +kernel
theorem dX6_mark_73 : decode cX6_mark 73 = .ok (.imul, 1) := by decide +kernel
theorem dX6_mark_74 : decode cX6_mark 74 = .ok (.iadd, 1) := by decide +kernel
theorem dX6_mark_75 : decode cX6_mark 75 = .ok (.iload_n 1, 1) := by decide +kernel
theorem dX6_mark_76 : decode cX6_mark 76 = .ok (.iload_n 2, 1) := by decide +kernel
theorem dX6_mark_77 : decode cX6_mark 77 = .ok (.iload_n 3, 1) := by decide +kernel
theorem dX6_mark_78 : decode cX6_mark 78 = .ok (.iload 4, 2) := by decide +kernel
theorem dX6_mark_80 : decode cX6_mark 80 = .ok (.invokevirtual 179, 3) := by decide +kernel
theorem dX6_mark_83 : decode cX6_mark 83 = .ok (.aload_n 0, 1) := by decide +kernel
theorem dX6_mark_84 : decode cX6_mark 84 = .ok (.getfield 7, 3) := by decide +kernel
theorem dX6_mark_87 : decode cX6_mark 87 = .ok (.iconst 5, 1) := by decide +kernel
theorem dX6_mark_88 : decode cX6_mark 88 = .ok (.dup2, 1) := by decide +kernel
theorem dX6_mark_89 : decode cX6_mark 89 = .ok (.iaload, 1) := by decide +kernel
theorem dX6_mark_90 : decode cX6_mark 90 = .ok (.iconst 1, 1) := by decide +kernel
theorem dX6_mark_91 : decode cX6_mark 91 = .ok (.iadd, 1) := by decide +kernel
theorem dX6_mark_92 : decode cX6_mark 92 = .ok (.iastore, 1) := by decide +kernel
theorem dX6_mark_93 : decode cX6_mark 93 = .ok (.aload_n 0, 1) := by decide +kernel
theorem dX6_mark_94 : decode cX6_mark 94 = .ok (.getfield 7, 3) := by decide +kernel
theorem dX6_mark_97 : decode cX6_mark 97 = .ok (.iconst 5, 1) := by decide +kernel
theorem dX6_mark_98 : decode cX6_mark 98 = .ok (.iaload, 1) := by decide +kernel
theorem dX6_mark_99 : decode cX6_mark 99 = .ok (.ireturn, 1) := by decide +kernel
theorem dX6_forget_0 : decode cX6_forget 0 = .ok (.iload_n 1, 1) := by decide +kernel
theorem dX6_forget_1 : decode cX6_forget 1 = .ok (.i2l, 1) := by decide +kernel
theorem dX6_forget_2 : decode cX6_forget 2 = .ok (.lconst 0, 1) := by decide +kernel
theorem dX6_forget_3 : decode cX6_forget 3 = .ok (.ldc2_w 147, 3) := by decide +kernel
theorem dX6_forget_6 : decode cX6_forget 6 = .ok (.invokestatic 56, 3) := by decide +kernel
theorem dX6_forget_9 : decode cX6_forget 9 = .ok (.ifCond .ne 10, 3) := by decide +kernel
theorem dX6_forget_12 : decode cX6_forget 12 = .ok (.aload_n 0, 1) := by decide +kernel
theorem dX6_forget_13 : decode cX6_forget 13 = .ok (.bipush (-2), 2) := by decide +kernel
theorem dX6_forget_15 : decode cX6_forget 15 = .ok (.invokevirtual 71, 3) := by decide +kernel
theorem dX6_forget_18 : decode cX6_forget 18 = .ok (.ireturn, 1) := by decide +kernel
theorem dX6_forget_19 : decode cX6_forget 19 = .ok (.aload_n 0, 1) := by decide +kernel
theorem dX6_forget_20 : decode cX6_forget 20 = .ok (.getfield 7, 3) := by decide +kernel
theorem dX6_forget_23 : decode cX6_forget 23 = .ok (.iconst 3, 1) := by decide +kernel
theorem dX6_forget_24 : decode cX6_forget 24 = .ok (.iload_n 1, 1) := by decide +kernel
theorem dX6_forget_25 : decode cX6_forget 25 = .ok (.iadd, 1) := by decide +kernel
theorem dX6_forget_26 : decode cX6_forget 26 = .ok (.iaload, 1) := by decide +kernel
theorem dX6_forget_27 : decode cX6_forget 27 = .ok (.istore_n 2, 1) := by decide +kernel
theorem dX6_forget_28 : decode cX6_forget 28 = .ok (.aload_n 0, 1) := by decide +kernel
theorem dX6_forget_29 : decode cX6_forget 29 = .ok (.getfield 7, 3) := by decide +kernel
theorem dX6_forget_32 : decode cX6_forget 32 = .ok (.iconst 3, 1) := by decide +kernel
theorem dX6_forget_33 : decode cX6_forget 33 = .ok (.iload_n 1, 1) := by decide +kernel
theorem dX6_forget_34 : decode cX6_forget 34 = .ok (.iadd, 1) := by decide +kernel
theorem dX6_forget_35 : decode cX6_forget 35 = .ok (.iconst 0, 1) := by decide +kernel
theorem dX6_forget_36 : decode cX6_forget 36 = .ok (.iastore, 1) := by decide +kernel
theorem dX6_forget_37 : decode cX6_forget 37 = .ok (.iload_n 2, 1) := by decide +kernel
theorem dX6_forget_38 : decode cX6_forget 38 = .ok (.ireturn, 1) := by decide +kernel
theorem dX6_kindsOfPromise_0 : decode cX6_kindsOfPromise 0 = .ok (.iconst 0, 1) := by decide +kernel
theorem dX6_kindsOfPromise_1 : decode cX6_kindsOfPromise 1 = .ok (.istore_n 2, 1) := by decide +kernel
theorem dX6_kindsOfPromise_2 : decode cX6_kindsOfPromise 2 = .ok (.iconst 0, 1) := by decide +kernel
theorem dX6_kindsOfPromise_3 : decode cX6_kindsOfPromise 3 = .ok (.istore_n 3, 1) := by decide +kernel
theorem dX6_kindsOfPromise_4 : decode cX6_kindsOfPromise 4 = .ok (.iload_n 3, 1) := by decide +kernel
theorem dX6_kindsOfPromise_5 : decode cX6_kindsOfPromise 5 = .ok (.bipush 6, 2) := by decide +kernel
theorem dX6_kindsOfPromise_7 : decode cX6_kindsOfPromise 7 = .ok (.if_icmp .ge 113, 3) := by decide +kernel
theorem dX6_kindsOfPromise_10 : decode cX6_kindsOfPromise 10 = .ok (.iconst 1, 1) := by decide +kernel
theorem dX6_kindsOfPromise_11 : decode cX6_kindsOfPromise 11 = .ok (.istore 4, 2) := by decide +kernel
theorem dX6_kindsOfPromise_13 : decode cX6_kindsOfPromise 13 = .ok (.iconst 0, 1) := by decide +kernel
theorem dX6_kindsOfPromise_14 : decode cX6_kindsOfPromise 14 = .ok (.istore 5, 2) := by decide +kernel
theorem dX6_kindsOfPromise_16 : decode cX6_kindsOfPromise 16 = .ok (.iload 5, 2) := by decide +kernel
theorem dX6_kindsOfPromise_18 : decode cX6_kindsOfPromise 18 = .ok (.aload_n 0, 1) := by decide +kernel
theorem dX6_kindsOfPromise_19 : decode cX6_kindsOfPromise 19 = .ok (.getfield 7, 3) := by decide +kernel
theorem dX6_kindsOfPromise_22 : decode cX6_kindsOfPromise 22 = .ok (.iconst 4, 1) := by decide +kernel
theorem dX6_kindsOfPromise_23 : decode cX6_kindsOfPromise 23 = .ok (.iaload, 1) := by decide +kernel
theorem dX6_kindsOfPromise_24 : decode cX6_kindsOfPromise 24 = .ok (.if_icmp .ge 75, 3) := by decide +kernel
theorem dX6_kindsOfPromise_27 : decode cX6_kindsOfPromise 27 = .ok (.bipush 58, 2) := by decide +kernel
theorem dX6_kindsOfPromise_29 : decode cX6_kindsOfPromise 29 = .ok (.iconst 4, 1) := by decide +kernel
theorem dX6_kindsOfPromise_30 : decode cX6_kindsOfPromise 30 = .ok (.iload 5, 2) := by decide +kernel
theorem dX6_kindsOfPromise_32 : decode cX6_kindsOfPromise 32 = .ok (.imul, 1) := by decide +kernel
theorem dX6_kindsOfPromise_33 : decode cX6_kindsOfPromise 33 = .ok (.iadd, 1) := by decide +kernel
theorem dX6_kindsOfPromise_34 : decode cX6_kindsOfPromise 34 = .ok (.istore 6, 2) := by decide +kernel
theorem dX6_kindsOfPromise_36 : decode cX6_kindsOfPromise 36 = .ok (.iload 4, 2) := by decide +kernel
theorem dX6_kindsOfPromise_38 : decode cX6_kindsOfPromise 38 = .ok (.ifCond .eq 52, 3) := by decide +kernel
theorem dX6_kindsOfPromise_41 : decode cX6_kindsOfPromise 41 = .ok (.aload_n 0, 1) := by decide +kernel
theorem dX6_kindsOfPromise_42 : decode cX6_kindsOfPromise 42 = .ok (.getfield 7, 3) := by decide +kernel
theorem dX6_kindsOfPromise_45 : decode cX6_kindsOfPromise 45 = .ok (.iload 6, 2) := by decide +kernel
theorem dX6_kindsOfPromise_47 : decode cX6_kindsOfPromise 47 = .ok (.iaload, 1) := by decide +kernel
theorem dX6_kindsOfPromise_48 : decode cX6_kindsOfPromise 48 = .ok (.iload_n 1, 1) := by decide +kernel
theorem dX6_kindsOfPromise_49 : decode cX6_kindsOfPromise 49 = .ok (.if_icmp .ne 37, 3) := by decide +kernel
theorem dX6_kindsOfPromise_52 : decode cX6_kindsOfPromise 52 = .ok (.iload_n 3, 1) := by decide +kernel
theorem dX6_kindsOfPromise_53 : decode cX6_kindsOfPromise 53 = .ok (.aload_n 0, 1) := by decide +kernel
theorem dX6_kindsOfPromise_54 : decode cX6_kindsOfPromise 54 = .ok (.getfield 7, 3) := by decide +kernel
theorem dX6_kindsOfPromise_57 : decode cX6_kindsOfPromise 57 = .ok (.iload 6, 2) := by decide +kernel
theorem dX6_kindsOfPromise_59 : decode cX6_kindsOfPromise 59 = .ok (.iconst 1, 1) := by decide +kernel
theorem dX6_kindsOfPromise_60 : decode cX6_kindsOfPromise 60 = .ok (.iadd, 1) := by decide +kernel
theorem dX6_kindsOfPromise_61 : decode cX6_kindsOfPromise 61 = .ok (.iaload, 1) := by decide +kernel
theorem dX6_kindsOfPromise_62 : decode cX6_kindsOfPromise 62 = .ok (.aload_n 0, 1) := by decide +kernel
theorem dX6_kindsOfPromise_63 : decode cX6_kindsOfPromise 63 = .ok (.getfield 7, 3) := by decide +kernel
theorem dX6_kindsOfPromise_66 : decode cX6_kindsOfPromise 66 = .ok (.iload 6, 2) := by decide +kernel
theorem dX6_kindsOfPromise_68 : decode cX6_kindsOfPromise 68 = .ok (.iconst 2, 1) := by decide +kernel
theorem dX6_kindsOfPromise_69 : decode cX6_kindsOfPromise 69 = .ok (.iadd, 1) := by decide +kernel
theorem dX6_kindsOfPromise_70 : decode cX6_kindsOfPromise 70 = .ok (.iaload, 1) := by decide +kernel
theorem dX6_kindsOfPromise_71 : decode cX6_kindsOfPromise 71 = .ok (.invokestatic 84, 3) := by decide +kernel
theorem dX6_kindsOfPromise_74 : decode cX6_kindsOfPromise 74 = .ok (.aload_n 0, 1) := by decide +kernel
theorem dX6_kindsOfPromise_75 : decode cX6_kindsOfPromise 75 = .ok (.getfield 7, 3) := by decide +kernel
theorem dX6_kindsOfPromise_78 : decode cX6_kindsOfPromise 78 = .ok (.iload 6, 2) := by decide +kernel
theorem dX6_kindsOfPromise_80 : decode cX6_kindsOfPromise 80 = .ok (.iconst 3, 1) := by decide +kernel
theorem dX6_kindsOfPromise_81 : decode cX6_kindsOfPromise 81 = .ok (.iadd, 1) := by decide +kernel
theorem dX6_kindsOfPromise_82 : decode cX6_kindsOfPromise 82 = .ok (.iaload, 1) := by decide +kernel
theorem dX6_kindsOfPromise_83 : decode cX6_kindsOfPromise 83 = .ok (.if_icmp .ne 7, 3) := by decide +kernel
theorem dX6_kindsOfPromise_86 : decode cX6_kindsOfPromise 86 = .ok (.iconst 1, 1) := by decide +kernel
theorem dX6_kindsOfPromise_87 : decode cX6_kindsOfPromise 87 = .ok (.goto 4, 3) := by decide +kernel
theorem dX6_kindsOfPromise_90 : decode cX6_kindsOfPromise 90 = .ok (.iconst 0, 1) := by decide +kernel
theorem dX6_kindsOfPromise_91 : decode cX6_kindsOfPromise 91 = .ok (.istore 4, 2) := by decide +kernel
theorem dX6_kindsOfPromise_93 : decode cX6_kindsOfPromise 93 = .ok (.iinc 5 1, 3) := by decide +kernel
theorem dX6_kindsOfPromise_96 : decode cX6_kindsOfPromise 96 = .ok (.goto (-80), 3) := by decide +kernel
theorem dX6_kindsOfPromise_99 : decode cX6_kindsOfPromise 99 = .ok (.iload_n 2, 1) := by decide +kernel
theorem dX6_kindsOfPromise_100 : decode cX6_kindsOfPromise 100 = .ok (.iload 4, 2) := by decide +kernel
theorem dX6_kindsOfPromise_102 : decode cX6_kindsOfPromise 102 = .ok (.ifCond .eq 9, 3) := by decide +kernel
theorem dX6_kindsOfPromise_105 : decode cX6_kindsOfPromise 105 = .ok (.iconst 1, 1) := by decide +kernel
theorem dX6_kindsOfPromise_106 : decode cX6_kindsOfPromise 106 = .ok (.iload_n 3, 1) := by decide +kernel
theorem dX6_kindsOfPromise_107 : decode cX6_kindsOfPromise 107 = .ok (.ishl, 1) := by decide +kernel
theorem dX6_kindsOfPromise_108 : decode cX6_kindsOfPromise 108 = .ok (.goto 4, 3) := by decide +kernel
theorem dX6_kindsOfPromise_111 : decode cX6_kindsOfPromise 111 = .ok (.iconst 0, 1) := by decide +kernel
theorem dX6_kindsOfPromise_112 : decode cX6_kindsOfPromise 112 = .ok (.ior, 1) := by decide +kernel
theorem dX6_kindsOfPromise_113 : decode cX6_kindsOfPromise 113 = .ok (.istore_n 2, 1) := by decide +kernel
theorem dX6_kindsOfPromise_114 : decode cX6_kindsOfPromise 114 = .ok (.iinc 3 1, 3) := by decide +kernel
theorem dX6_kindsOfPromise_117 : decode cX6_kindsOfPromise 117 = .ok (.goto (-113), 3) := by decide +kernel
theorem dX6_kindsOfPromise_120 : decode cX6_kindsOfPromise 120 = .ok (.iload_n 2, 1) := by decide +kernel
theorem dX6_kindsOfPromise_121 : decode cX6_kindsOfPromise 121 = .ok (.ireturn, 1) := by decide +kernel
theorem dX6_kindsOfHearer_0 : decode cX6_kindsOfHearer 0 = .ok (.iconst 0, 1) := by decide +kernel
theorem dX6_kindsOfHearer_1 : decode cX6_kindsOfHearer 1 = .ok (.istore_n 2, 1) := by decide +kernel
theorem dX6_kindsOfHearer_2 : decode cX6_kindsOfHearer 2 = .ok (.iconst 0, 1) := by decide +kernel
theorem dX6_kindsOfHearer_3 : decode cX6_kindsOfHearer 3 = .ok (.istore_n 3, 1) := by decide +kernel
theorem dX6_kindsOfHearer_4 : decode cX6_kindsOfHearer 4 = .ok (.iload_n 3, 1) := by decide +kernel
theorem dX6_kindsOfHearer_5 : decode cX6_kindsOfHearer 5 = .ok (.bipush 6, 2) := by decide +kernel
theorem dX6_kindsOfHearer_7 : decode cX6_kindsOfHearer 7 = .ok (.if_icmp .ge 113, 3) := by decide +kernel
theorem dX6_kindsOfHearer_10 : decode cX6_kindsOfHearer 10 = .ok (.iconst 1, 1) := by decide +kernel
theorem dX6_kindsOfHearer_11 : decode cX6_kindsOfHearer 11 = .ok (.istore 4, 2) := by decide +kernel
theorem dX6_kindsOfHearer_13 : decode cX6_kindsOfHearer 13 = .ok (.iconst 0, 1) := by decide +kernel
theorem dX6_kindsOfHearer_14 : decode cX6_kindsOfHearer 14 = .ok (.istore 5, 2) := by decide +kernel
theorem dX6_kindsOfHearer_16 : decode cX6_kindsOfHearer 16 = .ok (.iload 5, 2) := by decide +kernel
theorem dX6_kindsOfHearer_18 : decode cX6_kindsOfHearer 18 = .ok (.aload_n 0, 1) := by decide +kernel
theorem dX6_kindsOfHearer_19 : decode cX6_kindsOfHearer 19 = .ok (.getfield 7, 3) := by decide +kernel
theorem dX6_kindsOfHearer_22 : decode cX6_kindsOfHearer 22 = .ok (.iconst 5, 1) := by decide +kernel
theorem dX6_kindsOfHearer_23 : decode cX6_kindsOfHearer 23 = .ok (.iaload, 1) := by decide +kernel
theorem dX6_kindsOfHearer_24 : decode cX6_kindsOfHearer 24 = .ok (.if_icmp .ge 75, 3) := by decide +kernel
theorem dX6_kindsOfHearer_27 : decode cX6_kindsOfHearer 27 = .ok (.bipush 82, 2) := by decide +kernel
theorem dX6_kindsOfHearer_29 : decode cX6_kindsOfHearer 29 = .ok (.iconst 4, 1) := by decide +kernel
theorem dX6_kindsOfHearer_30 : decode cX6_kindsOfHearer 30 = .ok (.iload 5, 2) := by decide +kernel
theorem dX6_kindsOfHearer_32 : decode cX6_kindsOfHearer 32 = .ok (.imul, 1) := by decide +kernel
theorem dX6_kindsOfHearer_33 : decode cX6_kindsOfHearer 33 = .ok (.iadd, 1) := by decide +kernel
theorem dX6_kindsOfHearer_34 : decode cX6_kindsOfHearer 34 = .ok (.istore 6, 2) := by decide +kernel
theorem dX6_kindsOfHearer_36 : decode cX6_kindsOfHearer 36 = .ok (.iload 4, 2) := by decide +kernel
theorem dX6_kindsOfHearer_38 : decode cX6_kindsOfHearer 38 = .ok (.ifCond .eq 52, 3) := by decide +kernel
theorem dX6_kindsOfHearer_41 : decode cX6_kindsOfHearer 41 = .ok (.aload_n 0, 1) := by decide +kernel
theorem dX6_kindsOfHearer_42 : decode cX6_kindsOfHearer 42 = .ok (.getfield 7, 3) := by decide +kernel
theorem dX6_kindsOfHearer_45 : decode cX6_kindsOfHearer 45 = .ok (.iload 6, 2) := by decide +kernel
theorem dX6_kindsOfHearer_47 : decode cX6_kindsOfHearer 47 = .ok (.iaload, 1) := by decide +kernel
theorem dX6_kindsOfHearer_48 : decode cX6_kindsOfHearer 48 = .ok (.iload_n 1, 1) := by decide +kernel
theorem dX6_kindsOfHearer_49 : decode cX6_kindsOfHearer 49 = .ok (.if_icmp .ne 37, 3) := by decide +kernel
theorem dX6_kindsOfHearer_52 : decode cX6_kindsOfHearer 52 = .ok (.iload_n 3, 1) := by decide +kernel
theorem dX6_kindsOfHearer_53 : decode cX6_kindsOfHearer 53 = .ok (.aload_n 0, 1) := by decide +kernel
theorem dX6_kindsOfHearer_54 : decode cX6_kindsOfHearer 54 = .ok (.getfield 7, 3) := by decide +kernel
theorem dX6_kindsOfHearer_57 : decode cX6_kindsOfHearer 57 = .ok (.iload 6, 2) := by decide +kernel
theorem dX6_kindsOfHearer_59 : decode cX6_kindsOfHearer 59 = .ok (.iconst 2, 1) := by decide +kernel
theorem dX6_kindsOfHearer_60 : decode cX6_kindsOfHearer 60 = .ok (.iadd, 1) := by decide +kernel
theorem dX6_kindsOfHearer_61 : decode cX6_kindsOfHearer 61 = .ok (.iaload, 1) := by decide +kernel
theorem dX6_kindsOfHearer_62 : decode cX6_kindsOfHearer 62 = .ok (.aload_n 0, 1) := by decide +kernel
theorem dX6_kindsOfHearer_63 : decode cX6_kindsOfHearer 63 = .ok (.getfield 7, 3) := by decide +kernel
theorem dX6_kindsOfHearer_66 : decode cX6_kindsOfHearer 66 = .ok (.iload 6, 2) := by decide +kernel
theorem dX6_kindsOfHearer_68 : decode cX6_kindsOfHearer 68 = .ok (.iconst 1, 1) := by decide +kernel
theorem dX6_kindsOfHearer_69 : decode cX6_kindsOfHearer 69 = .ok (.iadd, 1) := by decide +kernel
theorem dX6_kindsOfHearer_70 : decode cX6_kindsOfHearer 70 = .ok (.iaload, 1) := by decide +kernel
theorem dX6_kindsOfHearer_71 : decode cX6_kindsOfHearer 71 = .ok (.invokestatic 92, 3) := by decide +kernel
theorem dX6_kindsOfHearer_74 : decode cX6_kindsOfHearer 74 = .ok (.aload_n 0, 1) := by decide +kernel
theorem dX6_kindsOfHearer_75 : decode cX6_kindsOfHearer 75 = .ok (.getfield 7, 3) := by decide +kernel
theorem dX6_kindsOfHearer_78 : decode cX6_kindsOfHearer 78 = .ok (.iload 6, 2) := by decide +kernel
theorem dX6_kindsOfHearer_80 : decode cX6_kindsOfHearer 80 = .ok (.iconst 3, 1) := by decide +kernel
theorem dX6_kindsOfHearer_81 : decode cX6_kindsOfHearer 81 = .ok (.iadd, 1) := by decide +kernel
theorem dX6_kindsOfHearer_82 : decode cX6_kindsOfHearer 82 = .ok (.iaload, 1) := by decide +kernel
theorem dX6_kindsOfHearer_83 : decode cX6_kindsOfHearer 83 = .ok (.if_icmp .ne 7, 3) := by decide +kernel
theorem dX6_kindsOfHearer_86 : decode cX6_kindsOfHearer 86 = .ok (.iconst 1, 1) := by decide +kernel
theorem dX6_kindsOfHearer_87 : decode cX6_kindsOfHearer 87 = .ok (.goto 4, 3) := by decide +kernel
theorem dX6_kindsOfHearer_90 : decode cX6_kindsOfHearer 90 = .ok (.iconst 0, 1) := by decide +kernel
theorem dX6_kindsOfHearer_91 : decode cX6_kindsOfHearer 91 = .ok (.istore 4, 2) := by decide +kernel
theorem dX6_kindsOfHearer_93 : decode cX6_kindsOfHearer 93 = .ok (.iinc 5 1, 3) := by decide +kernel
theorem dX6_kindsOfHearer_96 : decode cX6_kindsOfHearer 96 = .ok (.goto (-80), 3) := by decide +kernel
theorem dX6_kindsOfHearer_99 : decode cX6_kindsOfHearer 99 = .ok (.iload_n 2, 1) := by decide +kernel
theorem dX6_kindsOfHearer_100 : decode cX6_kindsOfHearer 100 = .ok (.iload 4, 2) := by decide +kernel
theorem dX6_kindsOfHearer_102 : decode cX6_kindsOfHearer 102 = .ok (.ifCond .eq 9, 3) := by decide +kernel
theorem dX6_kindsOfHearer_105 : decode cX6_kindsOfHearer 105 = .ok (.iconst 1, 1) := by decide +kernel
theorem dX6_kindsOfHearer_106 : decode cX6_kindsOfHearer 106 = .ok (.iload_n 3, 1) := by decide +kernel
theorem dX6_kindsOfHearer_107 : decode cX6_kindsOfHearer 107 = .ok (.ishl, 1) := by decide +kernel
theorem dX6_kindsOfHearer_108 : decode cX6_kindsOfHearer 108 = .ok (.goto 4, 3) := by decide +kernel
theorem dX6_kindsOfHearer_111 : decode cX6_kindsOfHearer 111 = .ok (.iconst 0, 1) := by decide +kernel
theorem dX6_kindsOfHearer_112 : decode cX6_kindsOfHearer 112 = .ok (.ior, 1) := by decide +kernel
theorem dX6_kindsOfHearer_113 : decode cX6_kindsOfHearer 113 = .ok (.istore_n 2, 1) := by decide +kernel
theorem dX6_kindsOfHearer_114 : decode cX6_kindsOfHearer 114 = .ok (.iinc 3 1, 3) := by decide +kernel
theorem dX6_kindsOfHearer_117 : decode cX6_kindsOfHearer 117 = .ok (.goto (-113), 3) := by decide +kernel
theorem dX6_kindsOfHearer_120 : decode cX6_kindsOfHearer 120 = .ok (.iload_n 2, 1) := by decide +kernel
theorem dX6_kindsOfHearer_121 : decode cX6_kindsOfHearer 121 = .ok (.ireturn, 1) := by decide +kernel
theorem dX6_is_0 : decode cX6_is 0 = .ok (.aload_n 0, 1) := by decide +kernel
theorem dX6_is_1 : decode cX6_is 1 = .ok (.iload_n 1, 1) := by decide +kernel
theorem dX6_is_2 : decode cX6_is 2 = .ok (.invokevirtual 121, 3) := by decide +kernel
theorem dX6_is_5 : decode cX6_is 5 = .ok (.ifCond .eq 11, 3) := by decide +kernel
theorem dX6_is_8 : decode cX6_is 8 = .ok (.aload_n 0, 1) := by decide +kernel
theorem dX6_is_9 : decode cX6_is 9 = .ok (.iload_n 1, 1) := by decide +kernel
theorem dX6_is_10 : decode cX6_is 10 = .ok (.invokevirtual 185, 3) := by decide +kernel
theorem dX6_is_13 : decode cX6_is 13 = .ok (.goto 9, 3) := by decide +kernel
theorem dX6_is_16 : decode cX6_is 16 = .ok (.aload_n 0, 1) := by decide +kernel
theorem dX6_is_17 : decode cX6_is 17 = .ok (.bipush (-2), 2) := by decide +kernel
theorem dX6_is_19 : decode cX6_is 19 = .ok (.invokevirtual 71, 3) := by decide +kernel
theorem dX6_is_22 : decode cX6_is 22 = .ok (.ireturn, 1) := by decide +kernel
theorem dX6_look_0 : decode cX6_look 0 = .ok (.aload_n 0, 1) := by decide +kernel
theorem dX6_look_1 : decode cX6_look 1 = .ok (.iload_n 1, 1) := by decide +kernel
theorem dX6_look_2 : decode cX6_look 2 = .ok (.invokevirtual 121, 3) := by decide +kernel
theorem dX6_look_5 : decode cX6_look 5 = .ok (.ifCond .ne 10, 3) := by decide +kernel
theorem dX6_look_8 : decode cX6_look 8 = .ok (.aload_n 0, 1) := by decide +kernel
theorem dX6_look_9 : decode cX6_look 9 = .ok (.bipush (-2), 2) := by decide +kernel
theorem dX6_look_11 : decode cX6_look 11 = .ok (.invokevirtual 71, 3) := by decide +kernel
theorem dX6_look_14 : decode cX6_look 14 = .ok (.ireturn, 1) := by decide +kernel
theorem dX6_look_15 : decode cX6_look 15 = .ok (.aload_n 0, 1) := by decide +kernel
theorem dX6_look_16 : decode cX6_look 16 = .ok (.iload_n 1, 1) := by decide +kernel
theorem dX6_look_17 : decode cX6_look 17 = .ok (.invokevirtual 185, 3) := by decide +kernel
theorem dX6_look_20 : decode cX6_look 20 = .ok (.istore_n 2, 1) := by decide +kernel
theorem dX6_look_21 : decode cX6_look 21 = .ok (.iconst (-1), 1) := by decide +kernel
theorem dX6_look_22 : decode cX6_look 22 = .ok (.istore_n 3, 1) := by decide +kernel
theorem dX6_look_23 : decode cX6_look 23 = .ok (.ldc 172, 2) := by decide +kernel
theorem dX6_look_25 : decode cX6_look 25 = .ok (.istore 4, 2) := by decide +kernel
theorem dX6_look_27 : decode cX6_look 27 = .ok (.iconst 0, 1) := by decide +kernel
theorem dX6_look_28 : decode cX6_look 28 = .ok (.istore 5, 2) := by decide +kernel
theorem dX6_look_30 : decode cX6_look 30 = .ok (.iload 5, 2) := by decide +kernel
theorem dX6_look_32 : decode cX6_look 32 = .ok (.bipush 60, 2) := by decide +kernel
theorem dX6_look_34 : decode cX6_look 34 = .ok (.if_icmp .gt 89, 3) := by decide +kernel
theorem dX6_look_37 : decode cX6_look 37 = .ok (.iload_n 2, 1) := by decide +kernel
theorem dX6_look_38 : decode cX6_look 38 = .ok (.ifCond .le 85, 3) := by decide +kernel
theorem dX6_look_41 : decode cX6_look 41 = .ok (.iconst 0, 1) := by decide +kernel
theorem dX6_look_42 : decode cX6_look 42 = .ok (.istore 6, 2) := by decide +kernel
theorem dX6_look_44 : decode cX6_look 44 = .ok (.iload 6, 2) := by decide +kernel
theorem dX6_look_46 : decode cX6_look 46 = .ok (.bipush 6, 2) := by decide +kernel
theorem dX6_look_48 : decode cX6_look 48 = .ok (.if_icmp .ge 32, 3) := by decide +kernel
theorem dX6_look_51 : decode cX6_look 51 = .ok (.aload_n 0, 1) := by decide +kernel
theorem dX6_look_52 : decode cX6_look 52 = .ok (.getfield 33, 3) := by decide +kernel
theorem dX6_look_55 : decode cX6_look 55 = .ok (.iload 6, 2) := by decide +kernel
theorem dX6_look_57 : decode cX6_look 57 = .ok (.iload 6, 2) := by decide +kernel
theorem dX6_look_59 : decode cX6_look 59 = .ok (.aload_n 0, 1) := by decide +kernel
theorem dX6_look_60 : decode cX6_look 60 = .ok (.getfield 7, 3) := by decide +kernel
theorem dX6_look_63 : decode cX6_look 63 = .ok (.bipush 33, 2) := by decide +kernel
theorem dX6_look_65 : decode cX6_look 65 = .ok (.iload_n 1, 1) := by decide +kernel
theorem dX6_look_66 : decode cX6_look 66 = .ok (.iadd, 1) := by decide +kernel
theorem dX6_look_67 : decode cX6_look 67 = .ok (.iaload, 1) := by decide +kernel
theorem dX6_look_68 : decode cX6_look 68 = .ok (.iload 5, 2) := by decide +kernel
theorem dX6_look_70 : decode cX6_look 70 = .ok (.invokestatic 84, 3) := by decide +kernel
theorem dX6_look_73 : decode cX6_look 73 = .ok (.iastore, 1) := by decide +kernel
theorem dX6_look_74 : decode cX6_look 74 = .ok (.iinc 6 1, 3) := by decide +kernel
theorem dX6_look_77 : decode cX6_look 77 = .ok (.goto (-33), 3) := by decide +kernel
theorem dX6_look_80 : decode cX6_look 80 = .ok (.aload_n 0, 1) := by decide +kernel
theorem dX6_look_81 : decode cX6_look 81 = .ok (.iload_n 2, 1) := by decide +kernel
theorem dX6_look_82 : decode cX6_look 82 = .ok (.invokevirtual 176, 3) := by decide +kernel
theorem dX6_look_85 : decode cX6_look 85 = .ok (.istore 6, 2) := by decide +kernel
theorem dX6_look_87 : decode cX6_look 87 = .ok (.iload 6, 2) := by decide +kernel
theorem dX6_look_89 : decode cX6_look 89 = .ok (.iload 4, 2) := by decide +kernel
theorem dX6_look_91 : decode cX6_look 91 = .ok (.if_icmp .ge 8, 3) := by decide +kernel
theorem dX6_look_94 : decode cX6_look 94 = .ok (.iload 5, 2) := by decide +kernel
theorem dX6_look_96 : decode cX6_look 96 = .ok (.goto 4, 3) := by decide +kernel
theorem dX6_look_99 : decode cX6_look 99 = .ok (.iload_n 3, 1) := by decide +kernel
theorem dX6_look_100 : decode cX6_look 100 = .ok (.istore_n 3, 1) := by decide +kernel
theorem dX6_look_101 : decode cX6_look 101 = .ok (.iload 6, 2) := by decide +kernel
theorem dX6_look_103 : decode cX6_look 103 = .ok (.iload 4, 2) := by decide +kernel
theorem dX6_look_105 : decode cX6_look 105 = .ok (.if_icmp .ge 8, 3) := by decide +kernel
theorem dX6_look_108 : decode cX6_look 108 = .ok (.iload 6, 2) := by decide +kernel
theorem dX6_look_110 : decode cX6_look 110 = .ok (.goto 5, 3) := by decide +kernel
theorem dX6_look_113 : decode cX6_look 113 = .ok (.iload 4, 2) := by decide +kernel
theorem dX6_look_115 : decode cX6_look 115 = .ok (.istore 4, 2) := by decide +kernel
theorem dX6_look_117 : decode cX6_look 117 = .ok (.iinc 5 1, 3) := by decide +kernel
theorem dX6_look_120 : decode cX6_look 120 = .ok (.goto (-90), 3) := by decide +kernel
theorem dX6_look_123 : decode cX6_look 123 = .ok (.iload_n 3, 1) := by decide +kernel
theorem dX6_look_124 : decode cX6_look 124 = .ok (.ireturn, 1) := by decide +kernel
theorem dX6_kinds_0 : decode cX6_kinds 0 = .ok (.aload_n 0, 1) := by decide +kernel
theorem dX6_kinds_1 : decode cX6_kinds 1 = .ok (.iload_n 1, 1) := by decide +kernel
theorem dX6_kinds_2 : decode cX6_kinds 2 = .ok (.invokevirtual 134, 3) := by decide +kernel
theorem dX6_kinds_5 : decode cX6_kinds 5 = .ok (.ifCond .eq 11, 3) := by decide +kernel
theorem dX6_kinds_8 : decode cX6_kinds 8 = .ok (.aload_n 0, 1) := by decide +kernel
theorem dX6_kinds_9 : decode cX6_kinds 9 = .ok (.iload_n 1, 1) := by decide +kernel
theorem dX6_kinds_10 : decode cX6_kinds 10 = .ok (.invokevirtual 188, 3) := by decide +kernel
theorem dX6_kinds_13 : decode cX6_kinds 13 = .ok (.goto 9, 3) := by decide +kernel
theorem dX6_kinds_16 : decode cX6_kinds 16 = .ok (.aload_n 0, 1) := by decide +kernel
theorem dX6_kinds_17 : decode cX6_kinds 17 = .ok (.bipush (-2), 2) := by decide +kernel
theorem dX6_kinds_19 : decode cX6_kinds 19 = .ok (.invokevirtual 71, 3) := by decide +kernel
theorem dX6_kinds_22 : decode cX6_kinds 22 = .ok (.ireturn, 1) := by decide +kernel
theorem dX6_ask_0 : decode cX6_ask 0 = .ok (.aload_n 0, 1) := by decide +kernel
theorem dX6_ask_1 : decode cX6_ask 1 = .ok (.iload_n 1, 1) := by decide +kernel
theorem dX6_ask_2 : decode cX6_ask 2 = .ok (.invokevirtual 134, 3) := by decide +kernel
theorem dX6_ask_5 : decode cX6_ask 5 = .ok (.ifCond .ne 10, 3) := by decide +kernel
theorem dX6_ask_8 : decode cX6_ask 8 = .ok (.aload_n 0, 1) := by decide +kernel
theorem dX6_ask_9 : decode cX6_ask 9 = .ok (.bipush (-2), 2) := by decide +kernel
theorem dX6_ask_11 : decode cX6_ask 11 = .ok (.invokevirtual 71, 3) := by decide +kernel
theorem dX6_ask_14 : decode cX6_ask 14 = .ok (.ireturn, 1) := by decide +kernel
theorem dX6_ask_15 : decode cX6_ask 15 = .ok (.aload_n 0, 1) := by decide +kernel
theorem dX6_ask_16 : decode cX6_ask 16 = .ok (.iload_n 1, 1) := by decide +kernel
theorem dX6_ask_17 : decode cX6_ask 17 = .ok (.invokevirtual 188, 3) := by decide +kernel
theorem dX6_ask_20 : decode cX6_ask 20 = .ok (.istore_n 2, 1) := by decide +kernel
theorem dX6_ask_21 : decode cX6_ask 21 = .ok (.iconst (-1), 1) := by decide +kernel
theorem dX6_ask_22 : decode cX6_ask 22 = .ok (.istore_n 3, 1) := by decide +kernel
theorem dX6_ask_23 : decode cX6_ask 23 = .ok (.ldc 172, 2) := by decide +kernel
theorem dX6_ask_25 : decode cX6_ask 25 = .ok (.istore 4, 2) := by decide +kernel
theorem dX6_ask_27 : decode cX6_ask 27 = .ok (.iconst 0, 1) := by decide +kernel
theorem dX6_ask_28 : decode cX6_ask 28 = .ok (.istore 5, 2) := by decide +kernel
theorem dX6_ask_30 : decode cX6_ask 30 = .ok (.iload 5, 2) := by decide +kernel
theorem dX6_ask_32 : decode cX6_ask 32 = .ok (.bipush 30, 2) := by decide +kernel
theorem dX6_ask_34 : decode cX6_ask 34 = .ok (.if_icmp .gt 89, 3) := by decide +kernel
theorem dX6_ask_37 : decode cX6_ask 37 = .ok (.iload_n 2, 1) := by decide +kernel
theorem dX6_ask_38 : decode cX6_ask 38 = .ok (.ifCond .le 85, 3) := by decide +kernel
theorem dX6_ask_41 : decode cX6_ask 41 = .ok (.iconst 0, 1) := by decide +kernel
theorem dX6_ask_42 : decode cX6_ask 42 = .ok (.istore 6, 2) := by decide +kernel
theorem dX6_ask_44 : decode cX6_ask 44 = .ok (.iload 6, 2) := by decide +kernel
theorem dX6_ask_46 : decode cX6_ask 46 = .ok (.bipush 6, 2) := by decide +kernel
theorem dX6_ask_48 : decode cX6_ask 48 = .ok (.if_icmp .ge 32, 3) := by decide +kernel
theorem dX6_ask_51 : decode cX6_ask 51 = .ok (.aload_n 0, 1) := by decide +kernel
theorem dX6_ask_52 : decode cX6_ask 52 = .ok (.getfield 33, 3) := by decide +kernel
theorem dX6_ask_55 : decode cX6_ask 55 = .ok (.iload 6, 2) := by decide +kernel
theorem dX6_ask_57 : decode cX6_ask 57 = .ok (.iload 6, 2) := by decide +kernel
theorem dX6_ask_59 : decode cX6_ask 59 = .ok (.iload 5, 2) := by decide +kernel
theorem dX6_ask_61 : decode cX6_ask 61 = .ok (.aload_n 0, 1) := by decide +kernel
theorem dX6_ask_62 : decode cX6_ask 62 = .ok (.getfield 7, 3) := by decide +kernel
theorem dX6_ask_65 : decode cX6_ask 65 = .ok (.bipush 44, 2) := by decide +kernel
theorem dX6_ask_67 : decode cX6_ask 67 = .ok (.iload_n 1, 1) := by decide +kernel
theorem dX6_ask_68 : decode cX6_ask 68 = .ok (.iadd, 1) := by decide +kernel
theorem dX6_ask_69 : decode cX6_ask 69 = .ok (.iaload, 1) := by decide +kernel
theorem dX6_ask_70 : decode cX6_ask 70 = .ok (.invokestatic 92, 3) := by decide +kernel
theorem dX6_ask_73 : decode cX6_ask 73 = .ok (.iastore, 1) := by decide +kernel
theorem dX6_ask_74 : decode cX6_ask 74 = .ok (.iinc 6 1, 3) := by decide +kernel
theorem dX6_ask_77 : decode cX6_ask 77 = .ok (.goto (-33), 3) := by decide +kernel
theorem dX6_ask_80 : decode cX6_ask 80 = .ok (.aload_n 0, 1) := by decide +kernel
theorem dX6_ask_81 : decode cX6_ask 81 = .ok (.iload_n 2, 1) := by decide +kernel
theorem dX6_ask_82 : decode cX6_ask 82 = .ok (.invokevirtual 176, 3) := by decide +kernel
theorem dX6_ask_85 : decode cX6_ask 85 = .ok (.istore 6, 2) := by decide +kernel
theorem dX6_ask_87 : decode cX6_ask 87 = .ok (.iload 6, 2) := by decide +kernel
theorem dX6_ask_89 : decode cX6_ask 89 = .ok (.iload 4, 2) := by decide +kernel
theorem dX6_ask_91 : decode cX6_ask 91 = .ok (.if_icmp .ge 8, 3) := by decide +kernel
theorem dX6_ask_94 : decode cX6_ask 94 = .ok (.iload 5, 2) := by decide +kernel
theorem dX6_ask_96 : decode cX6_ask 96 = .ok (.goto 4, 3) := by decide +kernel
theorem dX6_ask_99 : decode cX6_ask 99 = .ok (.iload_n 3, 1) := by decide +kernel
theorem dX6_ask_100 : decode cX6_ask 100 = .ok (.istore_n 3, 1) := by decide +kernel
theorem dX6_ask_101 : decode cX6_ask 101 = .ok (.iload 6, 2) := by decide +kernel
theorem dX6_ask_103 : decode cX6_ask 103 = .ok (.iload 4, 2) := by decide +kernel
theorem dX6_ask_105 : decode cX6_ask 105 = .ok (.if_icmp .ge 8, 3) := by decide +kernel
theorem dX6_ask_108 : decode cX6_ask 108 = .ok (.iload 6, 2) := by decide +kernel
theorem dX6_ask_110 : decode cX6_ask 110 = .ok (.goto 5, 3) := by decide +kernel
theorem dX6_ask_113 : decode cX6_ask 113 = .ok (.iload 4, 2) := by decide +kernel
theorem dX6_ask_115 : decode cX6_ask 115 = .ok (.istore 4, 2) := by decide +kernel
theorem dX6_ask_117 : decode cX6_ask 117 = .ok (.iinc 5 1, 3) := by decide +kernel
theorem dX6_ask_120 : decode cX6_ask 120 = .ok (.goto (-90), 3) := by decide +kernel
theorem dX6_ask_123 : decode cX6_ask 123 = .ok (.iload_n 3, 1) := by decide +kernel
theorem dX6_ask_124 : decode cX6_ask 124 = .ok (.ireturn, 1) := by decide +kernel
theorem dX6_getsBy_0 : decode cX6_getsBy 0 = .ok (.iload_n 0, 1) := by decide +kernel
theorem dX6_getsBy_1 : decode cX6_getsBy 1 = .ok (.iload_n 1, 1) := by decide +kernel
theorem dX6_getsBy_2 : decode cX6_getsBy 2 = .ok (.if_icmp .gt 12, 3) := by decide +kernel
theorem dX6_getsBy_5 : decode cX6_getsBy 5 = .ok (.iload_n 0, 1) := by decide +kernel
theorem dX6_getsBy_6 : decode cX6_getsBy 6 = .ok (.iload_n 1, 1) := by decide +kernel
theorem dX6_getsBy_7 : decode cX6_getsBy 7 = .ok (.if_icmp .ne 11, 3) := by decide +kernel
theorem dX6_getsBy_10 : decode cX6_getsBy 10 = .ok (.iload_n 2, 1) := by decide +kernel
theorem dX6_getsBy_11 : decode cX6_getsBy 11 = .ok (.ifCond .eq 7, 3) := by decide +kernel
theorem dX6_getsBy_14 : decode cX6_getsBy 14 = .ok (.iconst 1, 1) := by decide +kernel
theorem dX6_getsBy_15 : decode cX6_getsBy 15 = .ok (.goto 4, 3) := by decide +kernel
theorem dX6_getsBy_18 : decode cX6_getsBy 18 = .ok (.iconst 0, 1) := by decide +kernel
theorem dX6_getsBy_19 : decode cX6_getsBy 19 = .ok (.istore 4, 2) := by decide +kernel
theorem dX6_getsBy_21 : decode cX6_getsBy 21 = .ok (.iload 4, 2) := by decide +kernel
theorem dX6_getsBy_23 : decode cX6_getsBy 23 = .ok (.ifCond .eq 11, 3) := by decide +kernel
theorem dX6_getsBy_26 : decode cX6_getsBy 26 = .ok (.iload_n 3, 1) := by decide +kernel
theorem dX6_getsBy_27 : decode cX6_getsBy 27 = .ok (.iload_n 0, 1) := by decide +kernel
theorem dX6_getsBy_28 : decode cX6_getsBy 28 = .ok (.iconst 3, 1) := by decide +kernel
theorem dX6_getsBy_29 : decode cX6_getsBy 29 = .ok (.idiv, 1) := by decide +kernel
theorem dX6_getsBy_30 : decode cX6_getsBy 30 = .ok (.isub, 1) := by decide +kernel
theorem dX6_getsBy_31 : decode cX6_getsBy 31 = .ok (.goto 13, 3) := by decide +kernel
theorem dX6_getsBy_34 : decode cX6_getsBy 34 = .ok (.iload_n 1, 1) := by decide +kernel
theorem dX6_getsBy_35 : decode cX6_getsBy 35 = .ok (.iconst 5, 1) := by decide +kernel
theorem dX6_getsBy_36 : decode cX6_getsBy 36 = .ok (.if_icmp .le 7, 3) := by decide +kernel
theorem dX6_getsBy_39 : decode cX6_getsBy 39 = .ok (.iconst 1, 1) := by decide +kernel
theorem dX6_getsBy_40 : decode cX6_getsBy 40 = .ok (.goto 4, 3) := by decide +kernel
theorem dX6_getsBy_43 : decode cX6_getsBy 43 = .ok (.iconst 0, 1) := by decide +kernel
theorem dX6_getsBy_44 : decode cX6_getsBy 44 = .ok (.ireturn, 1) := by decide +kernel
theorem dX6_rests_0 : decode cX6_rests 0 = .ok (.iconst 1, 1) := by decide +kernel
theorem dX6_rests_1 : decode cX6_rests 1 = .ok (.istore_n 3, 1) := by decide +kernel
theorem dX6_rests_2 : decode cX6_rests 2 = .ok (.iconst 0, 1) := by decide +kernel
theorem dX6_rests_3 : decode cX6_rests 3 = .ok (.istore 4, 2) := by decide +kernel
theorem dX6_rests_5 : decode cX6_rests 5 = .ok (.iload 4, 2) := by decide +kernel
theorem dX6_rests_7 : decode cX6_rests 7 = .ok (.bipush 10, 2) := by decide +kernel
theorem dX6_rests_9 : decode cX6_rests 9 = .ok (.if_icmp .ge 55, 3) := by decide +kernel
theorem dX6_rests_12 : decode cX6_rests 12 = .ok (.iload_n 3, 1) := by decide +kernel
theorem dX6_rests_13 : decode cX6_rests 13 = .ok (.ifCond .eq 51, 3) := by decide +kernel
theorem dX6_rests_16 : decode cX6_rests 16 = .ok (.iload 4, 2) := by decide +kernel
theorem dX6_rests_18 : decode cX6_rests 18 = .ok (.iload_n 1, 1) := by decide +kernel
theorem dX6_rests_19 : decode cX6_rests 19 = .ok (.iconst 1, 1) := by decide +kernel
theorem dX6_rests_20 : decode cX6_rests 20 = .ok (.iload_n 2, 1) := by decide +kernel
theorem dX6_rests_21 : decode cX6_rests 21 = .ok (.invokestatic 191, 3) := by decide +kernel
theorem dX6_rests_24 : decode cX6_rests 24 = .ok (.iload_n 0, 1) := by decide +kernel
theorem dX6_rests_25 : decode cX6_rests 25 = .ok (.iload_n 1, 1) := by decide +kernel
theorem dX6_rests_26 : decode cX6_rests 26 = .ok (.iconst 1, 1) := by decide +kernel
theorem dX6_rests_27 : decode cX6_rests 27 = .ok (.iload_n 2, 1) := by decide +kernel
theorem dX6_rests_28 : decode cX6_rests 28 = .ok (.invokestatic 191, 3) := by decide +kernel
theorem dX6_rests_31 : decode cX6_rests 31 = .ok (.if_icmp .gt 25, 3) := by decide +kernel
theorem dX6_rests_34 : decode cX6_rests 34 = .ok (.iload 4, 2) := by decide +kernel
theorem dX6_rests_36 : decode cX6_rests 36 = .ok (.iload_n 0, 1) := by decide +kernel
theorem dX6_rests_37 : decode cX6_rests 37 = .ok (.iconst 0, 1) := by decide +kernel
theorem dX6_rests_38 : decode cX6_rests 38 = .ok (.iload_n 2, 1) := by decide +kernel
theorem dX6_rests_39 : decode cX6_rests 39 = .ok (.invokestatic 191, 3) := by decide +kernel
theorem dX6_rests_42 : decode cX6_rests 42 = .ok (.iload_n 1, 1) := by decide +kernel
theorem dX6_rests_43 : decode cX6_rests 43 = .ok (.iload_n 0, 1) := by decide +kernel
theorem dX6_rests_44 : decode cX6_rests 44 = .ok (.iconst 0, 1) := by decide +kernel
theorem dX6_rests_45 : decode cX6_rests 45 = .ok (.iload_n 2, 1) := by decide +kernel
theorem dX6_rests_46 : decode cX6_rests 46 = .ok (.invokestatic 191, 3) := by decide +kernel
theorem dX6_rests_49 : decode cX6_rests 49 = .ok (.if_icmp .gt 7, 3) := by decide +kernel
theorem dX6_rests_52 : decode cX6_rests 52 = .ok (.iconst 1, 1) := by decide +kernel
theorem dX6_rests_53 : decode cX6_rests 53 = .ok (.goto 4, 3) := by decide +kernel
theorem dX6_rests_56 : decode cX6_rests 56 = .ok (.iconst 0, 1) := by decide +kernel
theorem dX6_rests_57 : decode cX6_rests 57 = .ok (.istore_n 3, 1) := by decide +kernel
theorem dX6_rests_58 : decode cX6_rests 58 = .ok (.iinc 4 1, 3) := by decide +kernel
theorem dX6_rests_61 : decode cX6_rests 61 = .ok (.goto (-56), 3) := by decide +kernel
theorem dX6_rests_64 : decode cX6_rests 64 = .ok (.iload_n 3, 1) := by decide +kernel
theorem dX6_rests_65 : decode cX6_rests 65 = .ok (.ireturn, 1) := by decide +kernel
theorem dX6_bids_0 : decode cX6_bids 0 = .ok (.aload_n 0, 1) := by decide +kernel
theorem dX6_bids_1 : decode cX6_bids 1 = .ok (.iload_n 1, 1) := by decide +kernel
theorem dX6_bids_2 : decode cX6_bids 2 = .ok (.invokevirtual 118, 3) := by decide +kernel
theorem dX6_bids_5 : decode cX6_bids 5 = .ok (.ifCond .eq 39, 3) := by decide +kernel
theorem dX6_bids_8 : decode cX6_bids 8 = .ok (.aload_n 0, 1) := by decide +kernel
theorem dX6_bids_9 : decode cX6_bids 9 = .ok (.iload_n 2, 1) := by decide +kernel
theorem dX6_bids_10 : decode cX6_bids 10 = .ok (.invokevirtual 118, 3) := by decide +kernel
theorem dX6_bids_13 : decode cX6_bids 13 = .ok (.ifCond .eq 31, 3) := by decide +kernel
theorem dX6_bids_16 : decode cX6_bids 16 = .ok (.iload_n 1, 1) := by decide +kernel
theorem dX6_bids_17 : decode cX6_bids 17 = .ok (.iload_n 2, 1) := by decide +kernel
theorem dX6_bids_18 : decode cX6_bids 18 = .ok (.if_icmp .eq 26, 3) := by decide +kernel
theorem dX6_bids_21 : decode cX6_bids 21 = .ok (.aload_n 0, 1) := by decide +kernel
theorem dX6_bids_22 : decode cX6_bids 22 = .ok (.iload_n 3, 1) := by decide +kernel
theorem dX6_bids_23 : decode cX6_bids 23 = .ok (.invokevirtual 121, 3) := by decide +kernel
theorem dX6_bids_26 : decode cX6_bids 26 = .ok (.ifCond .eq 18, 3) := by decide +kernel
theorem dX6_bids_29 : decode cX6_bids 29 = .ok (.aload_n 0, 1) := by decide +kernel
theorem dX6_bids_30 : decode cX6_bids 30 = .ok (.iload 4, 2) := by decide +kernel
theorem dX6_bids_32 : decode cX6_bids 32 = .ok (.invokevirtual 134, 3) := by decide +kernel
theorem dX6_bids_35 : decode cX6_bids 35 = .ok (.ifCond .eq 9, 3) := by decide +kernel
theorem dX6_bids_38 : decode cX6_bids 38 = .ok (.iload 5, 2) := by decide +kernel
theorem dX6_bids_40 : decode cX6_bids 40 = .ok (.iconst (-1), 1) := by decide +kernel
theorem dX6_bids_41 : decode cX6_bids 41 = .ok (.if_icmp .ge 10, 3) := by decide +kernel
theorem dX6_bids_44 : decode cX6_bids 44 = .ok (.aload_n 0, 1) := by decide +kernel
theorem dX6_bids_45 : decode cX6_bids 45 = .ok (.bipush (-10), 2) := by decide +kernel
theorem dX6_bids_47 : decode cX6_bids 47 = .ok (.invokevirtual 71, 3) := by decide +kernel
theorem dX6_bids_50 : decode cX6_bids 50 = .ok (.ireturn, 1) := by decide +kernel
theorem dX6_bids_51 : decode cX6_bids 51 = .ok (.iconst 0, 1) := by decide +kernel
theorem dX6_bids_52 : decode cX6_bids 52 = .ok (.istore 6, 2) := by decide +kernel
theorem dX6_bids_54 : decode cX6_bids 54 = .ok (.aload_n 0, 1) := by decide +kernel
theorem dX6_bids_55 : decode cX6_bids 55 = .ok (.getfield 7, 3) := by decide +kernel
theorem dX6_bids_58 : decode cX6_bids 58 = .ok (.iload_n 3, 1) := by decide +kernel
theorem dX6_bids_59 : decode cX6_bids 59 = .ok (.iload 4, 2) := by decide +kernel
theorem dX6_bids_61 : decode cX6_bids 61 = .ok (.invokestatic 114, 3) := by decide +kernel
theorem dX6_bids_64 : decode cX6_bids 64 = .ok (.istore 7, 2) := by decide +kernel
theorem dX6_bids_66 : decode cX6_bids 66 = .ok (.iconst 0, 1) := by decide +kernel
theorem dX6_bids_67 : decode cX6_bids 67 = .ok (.istore 8, 2) := by decide +kernel
theorem dX6_bids_69 : decode cX6_bids 69 = .ok (.iload 8, 2) := by decide +kernel
theorem dX6_bids_71 : decode cX6_bids 71 = .ok (.bipush 100, 2) := by decide +kernel
theorem dX6_bids_73 : decode cX6_bids 73 = .ok (.if_icmp .ge 40, 3) := by decide +kernel
theorem dX6_bids_76 : decode cX6_bids 76 = .ok (.iload 8, 2) := by decide +kernel
theorem dX6_bids_78 : decode cX6_bids 78 = .ok (.bipush 10, 2) := by decide +kernel
theorem dX6_bids_80 : decode cX6_bids 80 = .ok (.idiv, 1) := by decide +kernel
theorem dX6_bids_81 : decode cX6_bids 81 = .ok (.iload 8, 2) := by decide +kernel
theorem dX6_bids_83 : decode cX6_bids 83 = .ok (.bipush 10, 2) := by decide +kernel
theorem dX6_bids_85 : decode cX6_bids 85 = .ok (.irem, 1) := by decide +kernel
theorem dX6_bids_86 : decode cX6_bids 86 = .ok (.iload 7, 2) := by decide +kernel
theorem dX6_bids_88 : decode cX6_bids 88 = .ok (.invokestatic 195, 3) := by decide +kernel
theorem dX6_bids_91 : decode cX6_bids 91 = .ok (.ifCond .eq 16, 3) := by decide +kernel
theorem dX6_bids_94 : decode cX6_bids 94 = .ok (.iload 6, 2) := by decide +kernel
theorem dX6_bids_96 : decode cX6_bids 96 = .ok (.iload 5, 2) := by decide +kernel
theorem dX6_bids_98 : decode cX6_bids 98 = .ok (.if_icmp .ne 6, 3) := by decide +kernel
theorem dX6_bids_101 : decode cX6_bids 101 = .ok (.iload 8, 2) := by decide +kernel
theorem dX6_bids_103 : decode cX6_bids 103 = .ok (.ireturn, 1) := by decide +kernel
theorem dX6_bids_104 : decode cX6_bids 104 = .ok (.iinc 6 1, 3) := by decide +kernel
theorem dX6_bids_107 : decode cX6_bids 107 = .ok (.iinc 8 1, 3) := by decide +kernel
theorem dX6_bids_110 : decode cX6_bids 110 = .ok (.goto (-41), 3) := by decide +kernel
theorem dX6_bids_113 : decode cX6_bids 113 = .ok (.iload 5, 2) := by decide +kernel
theorem dX6_bids_115 : decode cX6_bids 115 = .ok (.iconst (-1), 1) := by decide +kernel
theorem dX6_bids_116 : decode cX6_bids 116 = .ok (.if_icmp .ne 8, 3) := by decide +kernel
theorem dX6_bids_119 : decode cX6_bids 119 = .ok (.iload 6, 2) := by decide +kernel
theorem dX6_bids_121 : decode cX6_bids 121 = .ok (.goto 5, 3) := by decide +kernel
theorem dX6_bids_124 : decode cX6_bids 124 = .ok (.bipush (-5), 2) := by decide +kernel
theorem dX6_bids_126 : decode cX6_bids 126 = .ok (.ireturn, 1) := by decide +kernel
theorem dX6_fraction_0 : decode cX6_fraction 0 = .ok (.lload_n 1, 1) := by decide +kernel
theorem dX6_fraction_1 : decode cX6_fraction 1 = .ok (.lstore 5, 2) := by decide +kernel
theorem dX6_fraction_3 : decode cX6_fraction 3 = .ok (.lload_n 3, 1) := by decide +kernel
theorem dX6_fraction_4 : decode cX6_fraction 4 = .ok (.lstore 7, 2) := by decide +kernel
theorem dX6_fraction_6 : decode cX6_fraction 6 = .ok (.lload 7, 2) := by decide +kernel
theorem dX6_fraction_8 : decode cX6_fraction 8 = .ok (.lconst 0, 1) := by decide +kernel
theorem dX6_fraction_9 : decode cX6_fraction 9 = .ok (.lcmp, 1) := by decide +kernel
theorem dX6_fraction_10 : decode cX6_fraction 10 = .ok (.ifCond .eq 21, 3) := by decide +kernel
theorem dX6_fraction_13 : decode cX6_fraction 13 = .ok (.lload 5, 2) := by decide +kernel
theorem dX6_fraction_15 : decode cX6_fraction 15 = .ok (.lload 7, 2) := by decide +kernel
theorem dX6_fraction_17 : decode cX6_fraction 17 = .ok (.lrem, 1) := by decide +kernel
theorem dX6_fraction_18 : decode cX6_fraction 18 = .ok (.lstore 9, 2) := by decide +kernel
theorem dX6_fraction_20 : decode cX6_fraction 20 = .ok (.lload 7, 2) := by decide +kernel
theorem dX6_fraction_22 : decode cX6_fraction 22 = .ok (.lstore 5, 2) := by decide +kernel
theorem dX6_fraction_24 : decode cX6_fraction 24 = .ok (.lload 9, 2) := by decide +kernel
theorem dX6_fraction_26 : decode cX6_fraction 26 = .ok (.lstore 7, 2) := by decide +kernel
theorem dX6_fraction_28 : decode cX6_fraction 28 = .ok (.goto (-22), 3) := by decide +kernel
theorem dX6_fraction_31 : decode cX6_fraction 31 = .ok (.aload_n 0, 1) := by decide +kernel
theorem dX6_fraction_32 : decode cX6_fraction 32 = .ok (.lload_n 1, 1) := by decide +kernel
theorem dX6_fraction_33 : decode cX6_fraction 33 = .ok (.lload 5, 2) := by decide +kernel
theorem dX6_fraction_35 : decode cX6_fraction 35 = .ok (.ldiv, 1) := by decide +kernel
theorem dX6_fraction_36 : decode cX6_fraction 36 = .ok (.putfield 199, 3) := by decide +kernel
theorem dX6_fraction_39 : decode cX6_fraction 39 = .ok (.aload_n 0, 1) := by decide +kernel
theorem dX6_fraction_40 : decode cX6_fraction 40 = .ok (.lload_n 3, 1) := by decide +kernel
theorem dX6_fraction_41 : decode cX6_fraction 41 = .ok (.lload 5, 2) := by decide +kernel
theorem dX6_fraction_43 : decode cX6_fraction 43 = .ok (.ldiv, 1) := by decide +kernel
theorem dX6_fraction_44 : decode cX6_fraction 44 = .ok (.putfield 23, 3) := by decide +kernel
theorem dX6_fraction_47 : decode cX6_fraction 47 = .ok (.return_, 1) := by decide +kernel
theorem dX6_redeemed_0 : decode cX6_redeemed 0 = .ok (.iload_n 1, 1) := by decide +kernel
theorem dX6_redeemed_1 : decode cX6_redeemed 1 = .ok (.i2l, 1) := by decide +kernel
theorem dX6_redeemed_2 : decode cX6_redeemed 2 = .ok (.lconst 0, 1) := by decide +kernel
theorem dX6_redeemed_3 : decode cX6_redeemed 3 = .ok (.ldc2_w 202, 3) := by decide +kernel
theorem dX6_redeemed_6 : decode cX6_redeemed 6 = .ok (.invokestatic 56, 3) := by decide +kernel
theorem dX6_redeemed_9 : decode cX6_redeemed 9 = .ok (.ifCond .ne 10, 3) := by decide +kernel
theorem dX6_redeemed_12 : decode cX6_redeemed 12 = .ok (.aload_n 0, 1) := by decide +kernel
theorem dX6_redeemed_13 : decode cX6_redeemed 13 = .ok (.bipush (-2), 2) := by decide +kernel
theorem dX6_redeemed_15 : decode cX6_redeemed 15 = .ok (.invokevirtual 71, 3) := by decide +kernel
theorem dX6_redeemed_18 : decode cX6_redeemed 18 = .ok (.ireturn, 1) := by decide +kernel
theorem dX6_redeemed_19 : decode cX6_redeemed 19 = .ok (.lconst 0, 1) := by decide +kernel
theorem dX6_redeemed_20 : decode cX6_redeemed 20 = .ok (.lstore_n 2, 1) := by decide +kernel
theorem dX6_redeemed_21 : decode cX6_redeemed 21 = .ok (.iconst 0, 1) := by decide +kernel
theorem dX6_redeemed_22 : decode cX6_redeemed 22 = .ok (.istore 4, 2) := by decide +kernel
theorem dX6_redeemed_24 : decode cX6_redeemed 24 = .ok (.iload 4, 2) := by decide +kernel
theorem dX6_redeemed_26 : decode cX6_redeemed 26 = .ok (.aload_n 0, 1) := by decide +kernel
theorem dX6_redeemed_27 : decode cX6_redeemed 27 = .ok (.invokevirtual 52, 3) := by decide +kernel
theorem dX6_redeemed_30 : decode cX6_redeemed 30 = .ok (.if_icmp .ge 43, 3) := by decide +kernel
theorem dX6_redeemed_33 : decode cX6_redeemed 33 = .ok (.lload_n 2, 1) := by decide +kernel
theorem dX6_redeemed_34 : decode cX6_redeemed 34 = .ok (.aload_n 0, 1) := by decide +kernel
theorem dX6_redeemed_35 : decode cX6_redeemed 35 = .ok (.getfield 7, 3) := by decide +kernel
theorem dX6_redeemed_38 : decode cX6_redeemed 38 = .ok (.iload 4, 2) := by decide +kernel
theorem dX6_redeemed_40 : decode cX6_redeemed 40 = .ok (.invokestatic 95, 3) := by decide +kernel
theorem dX6_redeemed_43 : decode cX6_redeemed 43 = .ok (.ifCond .eq 21, 3) := by decide +kernel
theorem dX6_redeemed_46 : decode cX6_redeemed 46 = .ok (.bipush 10, 2) := by decide +kernel
theorem dX6_redeemed_48 : decode cX6_redeemed 48 = .ok (.iload_n 1, 1) := by decide +kernel
theorem dX6_redeemed_49 : decode cX6_redeemed 49 = .ok (.isub, 1) := by decide +kernel
theorem dX6_redeemed_50 : decode cX6_redeemed 50 = .ok (.aload_n 0, 1) := by decide +kernel
theorem dX6_redeemed_51 : decode cX6_redeemed 51 = .ok (.getfield 7, 3) := by decide +kernel
theorem dX6_redeemed_54 : decode cX6_redeemed 54 = .ok (.iload 4, 2) := by decide +kernel
theorem dX6_redeemed_56 : decode cX6_redeemed 56 = .ok (.invokestatic 111, 3) := by decide +kernel
theorem dX6_redeemed_59 : decode cX6_redeemed 59 = .ok (.imul, 1) := by decide +kernel
theorem dX6_redeemed_60 : decode cX6_redeemed 60 = .ok (.i2l, 1) := by decide +kernel
theorem dX6_redeemed_61 : decode cX6_redeemed 61 = .ok (.goto 4, 3) := by decide +kernel
theorem dX6_redeemed_64 : decode cX6_redeemed 64 = .ok (.lconst 0, 1) := by decide +kernel
theorem dX6_redeemed_65 : decode cX6_redeemed 65 = .ok (.ladd, 1) := by decide +kernel
theorem dX6_redeemed_66 : decode cX6_redeemed 66 = .ok (.lstore_n 2, 1) := by decide +kernel
theorem dX6_redeemed_67 : decode cX6_redeemed 67 = .ok (.iinc 4 1, 3) := by decide +kernel
theorem dX6_redeemed_70 : decode cX6_redeemed 70 = .ok (.goto (-46), 3) := by decide +kernel
theorem dX6_redeemed_73 : decode cX6_redeemed 73 = .ok (.aload_n 0, 1) := by decide +kernel
theorem dX6_redeemed_74 : decode cX6_redeemed 74 = .ok (.lload_n 2, 1) := by decide +kernel
theorem dX6_redeemed_75 : decode cX6_redeemed 75 = .ok (.ldc2_w 202, 3) := by decide +kernel
theorem dX6_redeemed_78 : decode cX6_redeemed 78 = .ok (.invokevirtual 204, 3) := by decide +kernel
theorem dX6_redeemed_81 : decode cX6_redeemed 81 = .ok (.iconst 1, 1) := by decide +kernel
theorem dX6_redeemed_82 : decode cX6_redeemed 82 = .ok (.ireturn, 1) := by decide +kernel
theorem dX6_years_0 : decode cX6_years 0 = .ok (.iload_n 1, 1) := by decide +kernel
theorem dX6_years_1 : decode cX6_years 1 = .ok (.i2l, 1) := by decide +kernel
theorem dX6_years_2 : decode cX6_years 2 = .ok (.lconst 0, 1) := by decide +kernel
theorem dX6_years_3 : decode cX6_years 3 = .ok (.ldc2_w 208, 3) := by decide +kernel
theorem dX6_years_6 : decode cX6_years 6 = .ok (.invokestatic 56, 3) := by decide +kernel
theorem dX6_years_9 : decode cX6_years 9 = .ok (.ifCond .eq 15, 3) := by decide +kernel
theorem dX6_years_12 : decode cX6_years 12 = .ok (.iload_n 2, 1) := by decide +kernel
theorem dX6_years_13 : decode cX6_years 13 = .ok (.i2l, 1) := by decide +kernel
theorem dX6_years_14 : decode cX6_years 14 = .ok (.lconst 0, 1) := by decide +kernel
theorem dX6_years_15 : decode cX6_years 15 = .ok (.ldc2_w 152, 3) := by decide +kernel
theorem dX6_years_18 : decode cX6_years 18 = .ok (.invokestatic 56, 3) := by decide +kernel
theorem dX6_years_21 : decode cX6_years 21 = .ok (.ifCond .ne 10, 3) := by decide +kernel
theorem dX6_years_24 : decode cX6_years 24 = .ok (.aload_n 0, 1) := by decide +kernel
theorem dX6_years_25 : decode cX6_years 25 = .ok (.bipush (-2), 2) := by decide +kernel
theorem dX6_years_27 : decode cX6_years 27 = .ok (.invokevirtual 71, 3) := by decide +kernel
theorem dX6_years_30 : decode cX6_years 30 = .ok (.ireturn, 1) := by decide +kernel
theorem dX6_years_31 : decode cX6_years 31 = .ok (.iload_n 1, 1) := by decide +kernel
theorem dX6_years_32 : decode cX6_years 32 = .ok (.i2l, 1) := by decide +kernel
theorem dX6_years_33 : decode cX6_years 33 = .ok (.lstore_n 3, 1) := by decide +kernel
theorem dX6_years_34 : decode cX6_years 34 = .ok (.iconst 0, 1) := by decide +kernel
theorem dX6_years_35 : decode cX6_years 35 = .ok (.istore 5, 2) := by decide +kernel
theorem dX6_years_37 : decode cX6_years 37 = .ok (.iload 5, 2) := by decide +kernel
theorem dX6_years_39 : decode cX6_years 39 = .ok (.bipush 48, 2) := by decide +kernel
theorem dX6_years_41 : decode cX6_years 41 = .ok (.if_icmp .ge 23, 3) := by decide +kernel
theorem dX6_years_44 : decode cX6_years 44 = .ok (.aload_n 0, 1) := by decide +kernel
theorem dX6_years_45 : decode cX6_years 45 = .ok (.getfield 36, 3) := by decide +kernel
theorem dX6_years_48 : decode cX6_years 48 = .ok (.iload 5, 2) := by decide +kernel
theorem dX6_years_50 : decode cX6_years 50 = .ok (.aload_n 0, 1) := by decide +kernel
theorem dX6_years_51 : decode cX6_years 51 = .ok (.getfield 7, 3) := by decide +kernel
theorem dX6_years_54 : decode cX6_years 54 = .ok (.iload 5, 2) := by decide +kernel
theorem dX6_years_56 : decode cX6_years 56 = .ok (.iaload, 1) := by decide +kernel
theorem dX6_years_57 : decode cX6_years 57 = .ok (.iastore, 1) := by decide +kernel
theorem dX6_years_58 : decode cX6_years 58 = .ok (.iinc 5 1, 3) := by decide +kernel
theorem dX6_years_61 : decode cX6_years 61 = .ok (.goto (-24), 3) := by decide +kernel
theorem dX6_years_64 : decode cX6_years 64 = .ok (.iconst 0, 1) := by decide +kernel
theorem dX6_years_65 : decode cX6_years 65 = .ok (.istore 5, 2) := by decide +kernel
theorem dX6_years_67 : decode cX6_years 67 = .ok (.iload 5, 2) := by decide +kernel
theorem dX6_years_69 : decode cX6_years 69 = .ok (.iload_n 2, 1) := by decide +kernel
theorem dX6_years_70 : decode cX6_years 70 = .ok (.if_icmp .ge 95, 3) := by decide +kernel
theorem dX6_years_73 : decode cX6_years 73 = .ok (.lload_n 3, 1) := by decide +kernel
theorem dX6_years_74 : decode cX6_years 74 = .ok (.ldc2_w 210, 3) := by decide +kernel
theorem dX6_years_77 : decode cX6_years 77 = .ok (.lmul, 1) := by decide +kernel
theorem dX6_years_78 : decode cX6_years 78 = .ok (.ldc2_w 212, 3) := by decide +kernel
theorem dX6_years_81 : decode cX6_years 81 = .ok (.ladd, 1) := by decide +kernel
theorem dX6_years_82 : decode cX6_years 82 = .ok (.ldc2_w 214, 3) := by decide +kernel
theorem dX6_years_85 : decode cX6_years 85 = .ok (.lrem, 1) := by decide +kernel
theorem dX6_years_86 : decode cX6_years 86 = .ok (.lstore_n 3, 1) := by decide +kernel
theorem dX6_years_87 : decode cX6_years 87 = .ok (.lload_n 3, 1) := by decide +kernel
theorem dX6_years_88 : decode cX6_years 88 = .ok (.ldc2_w 216, 3) := by decide +kernel
theorem dX6_years_91 : decode cX6_years 91 = .ok (.ldiv, 1) := by decide +kernel
theorem dX6_years_92 : decode cX6_years 92 = .ok (.ldc2_w 218, 3) := by decide +kernel
theorem dX6_years_95 : decode cX6_years 95 = .ok (.lrem, 1) := by decide +kernel
theorem dX6_years_96 : decode cX6_years 96 = .ok (.l2i, 1) := by decide +kernel
theorem dX6_years_97 : decode cX6_years 97 = .ok (.istore 6, 2) := by decide +kernel
theorem dX6_years_99 : decode cX6_years 99 = .ok (.lload_n 3, 1) := by decide +kernel
theorem dX6_years_100 : decode cX6_years 100 = .ok (.ldc2_w 220, 3) := by decide +kernel
theorem dX6_years_103 : decode cX6_years 103 = .ok (.ldiv, 1) := by decide +kernel
theorem dX6_years_104 : decode cX6_years 104 = .ok (.ldc2_w 222, 3) := by decide +kernel
theorem dX6_years_107 : decode cX6_years 107 = .ok (.lrem, 1) := by decide +kernel
theorem dX6_years_108 : decode cX6_years 108 = .ok (.l2i, 1) := by decide +kernel
theorem dX6_years_109 : decode cX6_years 109 = .ok (.istore 7, 2) := by decide +kernel
theorem dX6_years_111 : decode cX6_years 111 = .ok (.aload_n 0, 1) := by decide +kernel
theorem dX6_years_112 : decode cX6_years 112 = .ok (.iload 6, 2) := by decide +kernel
theorem dX6_years_114 : decode cX6_years 114 = .ok (.invokevirtual 121, 3) := by decide +kernel
theorem dX6_years_117 : decode cX6_years 117 = .ok (.ifCond .eq 35, 3) := by decide +kernel
theorem dX6_years_120 : decode cX6_years 120 = .ok (.aload_n 0, 1) := by decide +kernel
theorem dX6_years_121 : decode cX6_years 121 = .ok (.getfield 36, 3) := by decide +kernel
theorem dX6_years_124 : decode cX6_years 124 = .ok (.iload 6, 2) := by decide +kernel
theorem dX6_years_126 : decode cX6_years 126 = .ok (.invokestatic 95, 3) := by decide +kernel
theorem dX6_years_129 : decode cX6_years 129 = .ok (.ifCond .eq 23, 3) := by decide +kernel
theorem dX6_years_132 : decode cX6_years 132 = .ok (.aload_n 0, 1) := by decide +kernel
theorem dX6_years_133 : decode cX6_years 133 = .ok (.iload 7, 2) := by decide +kernel
theorem dX6_years_135 : decode cX6_years 135 = .ok (.invokevirtual 134, 3) := by decide +kernel
theorem dX6_years_138 : decode cX6_years 138 = .ok (.ifCond .eq 14, 3) := by decide +kernel
theorem dX6_years_141 : decode cX6_years 141 = .ok (.aload_n 0, 1) := by decide +kernel
theorem dX6_years_142 : decode cX6_years 142 = .ok (.getfield 36, 3) := by decide +kernel
theorem dX6_years_145 : decode cX6_years 145 = .ok (.iload 6, 2) := by decide +kernel
theorem dX6_years_147 : decode cX6_years 147 = .ok (.iload 7, 2) := by decide +kernel
theorem dX6_years_149 : decode cX6_years 149 = .ok (.invokestatic 140, 3) := by decide +kernel
theorem dX6_years_152 : decode cX6_years 152 = .ok (.aload_n 0, 1) := by decide +kernel
theorem dX6_years_153 : decode cX6_years 153 = .ok (.getfield 36, 3) := by decide +kernel
theorem dX6_years_156 : decode cX6_years 156 = .ok (.invokestatic 99, 3) := by decide +kernel
theorem dX6_years_159 : decode cX6_years 159 = .ok (.iinc 5 1, 3) := by decide +kernel
theorem dX6_years_162 : decode cX6_years 162 = .ok (.goto (-95), 3) := by decide +kernel
theorem dX6_years_165 : decode cX6_years 165 = .ok (.aload_n 0, 1) := by decide +kernel
theorem dX6_years_166 : decode cX6_years 166 = .ok (.getfield 36, 3) := by decide +kernel
theorem dX6_years_169 : decode cX6_years 169 = .ok (.bipush 24, 2) := by decide +kernel
theorem dX6_years_171 : decode cX6_years 171 = .ok (.iaload, 1) := by decide +kernel
theorem dX6_years_172 : decode cX6_years 172 = .ok (.ireturn, 1) := by decide +kernel
theorem dX6_type_0 : decode cX6_type 0 = .ok (.iload_n 1, 1) := by decide +kernel
theorem dX6_type_1 : decode cX6_type 1 = .ok (.i2l, 1) := by decide +kernel
theorem dX6_type_2 : decode cX6_type 2 = .ok (.lconst 0, 1) := by decide +kernel
theorem dX6_type_3 : decode cX6_type 3 = .ok (.ldc2_w 224, 3) := by decide +kernel
theorem dX6_type_6 : decode cX6_type 6 = .ok (.invokestatic 56, 3) := by decide +kernel
theorem dX6_type_9 : decode cX6_type 9 = .ok (.ifCond .ne 10, 3) := by decide +kernel
theorem dX6_type_12 : decode cX6_type 12 = .ok (.aload_n 0, 1) := by decide +kernel
theorem dX6_type_13 : decode cX6_type 13 = .ok (.bipush (-2), 2) := by decide +kernel
theorem dX6_type_15 : decode cX6_type 15 = .ok (.invokevirtual 71, 3) := by decide +kernel
theorem dX6_type_18 : decode cX6_type 18 = .ok (.ireturn, 1) := by decide +kernel
theorem dX6_type_19 : decode cX6_type 19 = .ok (.aload_n 0, 1) := by decide +kernel
theorem dX6_type_20 : decode cX6_type 20 = .ok (.getfield 226, 3) := by decide +kernel
theorem dX6_type_23 : decode cX6_type 23 = .ok (.sipush 150, 3) := by decide +kernel
theorem dX6_type_26 : decode cX6_type 26 = .ok (.if_icmp .ne 8, 3) := by decide +kernel
theorem dX6_type_29 : decode cX6_type 29 = .ok (.aload_n 0, 1) := by decide +kernel
theorem dX6_type_30 : decode cX6_type 30 = .ok (.invokevirtual 75, 3) := by decide +kernel
theorem dX6_type_33 : decode cX6_type 33 = .ok (.ireturn, 1) := by decide +kernel
theorem dX6_type_34 : decode cX6_type 34 = .ok (.aload_n 0, 1) := by decide +kernel
theorem dX6_type_35 : decode cX6_type 35 = .ok (.getfield 39, 3) := by decide +kernel
theorem dX6_type_38 : decode cX6_type 38 = .ok (.aload_n 0, 1) := by decide +kernel
theorem dX6_type_39 : decode cX6_type 39 = .ok (.getfield 226, 3) := by decide +kernel
theorem dX6_type_42 : decode cX6_type 42 = .ok (.iload_n 1, 1) := by decide +kernel
theorem dX6_type_43 : decode cX6_type 43 = .ok (.iastore, 1) := by decide +kernel
theorem dX6_type_44 : decode cX6_type 44 = .ok (.aload_n 0, 1) := by decide +kernel
theorem dX6_type_45 : decode cX6_type 45 = .ok (.dup, 1) := by decide +kernel
theorem dX6_type_46 : decode cX6_type 46 = .ok (.getfield 226, 3) := by decide +kernel
theorem dX6_type_49 : decode cX6_type 49 = .ok (.iconst 1, 1) := by decide +kernel
theorem dX6_type_50 : decode cX6_type 50 = .ok (.iadd, 1) := by decide +kernel
theorem dX6_type_51 : decode cX6_type 51 = .ok (.putfield 226, 3) := by decide +kernel
theorem dX6_type_54 : decode cX6_type 54 = .ok (.aload_n 0, 1) := by decide +kernel
theorem dX6_type_55 : decode cX6_type 55 = .ok (.getfield 226, 3) := by decide +kernel
theorem dX6_type_58 : decode cX6_type 58 = .ok (.ireturn, 1) := by decide +kernel
theorem dX6_clear_0 : decode cX6_clear 0 = .ok (.aload_n 0, 1) := by decide +kernel
theorem dX6_clear_1 : decode cX6_clear 1 = .ok (.getfield 226, 3) := by decide +kernel
theorem dX6_clear_4 : decode cX6_clear 4 = .ok (.istore_n 1, 1) := by decide +kernel
theorem dX6_clear_5 : decode cX6_clear 5 = .ok (.aload_n 0, 1) := by decide +kernel
theorem dX6_clear_6 : decode cX6_clear 6 = .ok (.iconst 0, 1) := by decide +kernel
theorem dX6_clear_7 : decode cX6_clear 7 = .ok (.putfield 226, 3) := by decide +kernel
theorem dX6_clear_10 : decode cX6_clear 10 = .ok (.iload_n 1, 1) := by decide +kernel
theorem dX6_clear_11 : decode cX6_clear 11 = .ok (.ireturn, 1) := by decide +kernel
theorem dX6_isSmall_0 : decode cX6_isSmall 0 = .ok (.iload_n 0, 1) := by decide +kernel
theorem dX6_isSmall_1 : decode cX6_isSmall 1 = .ok (.i2l, 1) := by decide +kernel
theorem dX6_isSmall_2 : decode cX6_isSmall 2 = .ok (.ldc2_w 230, 3) := by decide +kernel
theorem dX6_isSmall_5 : decode cX6_isSmall 5 = .ok (.ldc2_w 232, 3) := by decide +kernel
theorem dX6_isSmall_8 : decode cX6_isSmall 8 = .ok (.invokestatic 56, 3) := by decide +kernel
theorem dX6_isSmall_11 : decode cX6_isSmall 11 = .ok (.ireturn, 1) := by decide +kernel
theorem dX6_isFigure_0 : decode cX6_isFigure 0 = .ok (.iload_n 0, 1) := by decide +kernel
theorem dX6_isFigure_1 : decode cX6_isFigure 1 = .ok (.i2l, 1) := by decide +kernel
theorem dX6_isFigure_2 : decode cX6_isFigure 2 = .ok (.ldc2_w 234, 3) := by decide +kernel
theorem dX6_isFigure_5 : decode cX6_isFigure 5 = .ok (.ldc2_w 236, 3) := by decide +kernel
theorem dX6_isFigure_8 : decode cX6_isFigure 8 = .ok (.invokestatic 56, 3) := by decide +kernel
theorem dX6_isFigure_11 : decode cX6_isFigure 11 = .ok (.ireturn, 1) := by decide +kernel
theorem dX6_lookAt_0 : decode cX6_lookAt 0 = .ok (.aload_n 0, 1) := by decide +kernel
theorem dX6_lookAt_1 : decode cX6_lookAt 1 = .ok (.iload_n 1, 1) := by decide +kernel
theorem dX6_lookAt_2 : decode cX6_lookAt 2 = .ok (.putfield 238, 3) := by decide +kernel
theorem dX6_lookAt_5 : decode cX6_lookAt 5 = .ok (.aload_n 0, 1) := by decide +kernel
theorem dX6_lookAt_6 : decode cX6_lookAt 6 = .ok (.getfield 238, 3) := by decide +kernel
theorem dX6_lookAt_9 : decode cX6_lookAt 9 = .ok (.aload_n 0, 1) := by decide +kernel
theorem dX6_lookAt_10 : decode cX6_lookAt 10 = .ok (.getfield 226, 3) := by decide +kernel
theorem dX6_lookAt_13 : decode cX6_lookAt 13 = .ok (.if_icmp .ge 30, 3) := by decide +kernel
theorem dX6_lookAt_16 : decode cX6_lookAt 16 = .ok (.aload_n 0, 1) := by decide +kernel
theorem dX6_lookAt_17 : decode cX6_lookAt 17 = .ok (.getfield 39, 3) := by decide +kernel
theorem dX6_lookAt_20 : decode cX6_lookAt 20 = .ok (.aload_n 0, 1) := by decide +kernel
theorem dX6_lookAt_21 : decode cX6_lookAt 21 = .ok (.getfield 238, 3) := by decide +kernel
theorem dX6_lookAt_24 : decode cX6_lookAt 24 = .ok (.iaload, 1) := by decide +kernel
theorem dX6_lookAt_25 : decode cX6_lookAt 25 = .ok (.bipush 32, 2) := by decide +kernel
theorem dX6_lookAt_27 : decode cX6_lookAt 27 = .ok (.if_icmp .ne 16, 3) := by decide +kernel
theorem dX6_lookAt_30 : decode cX6_lookAt 30 = .ok (.aload_n 0, 1) := by decide +kernel
theorem dX6_lookAt_31 : decode cX6_lookAt 31 = .ok (.dup, 1) := by decide +kernel
theorem dX6_lookAt_32 : decode cX6_lookAt 32 = .ok (.getfield 238, 3) := by decide +kernel
theorem dX6_lookAt_35 : decode cX6_lookAt 35 = .ok (.iconst 1, 1) := by decide +kernel
theorem dX6_lookAt_36 : decode cX6_lookAt 36 = .ok (.iadd, 1) := by decide +kernel
theorem dX6_lookAt_37 : decode cX6_lookAt 37 = .ok (.putfield 238, 3) := by decide +kernel
theorem dX6_lookAt_40 : decode cX6_lookAt 40 = .ok (.goto (-35), 3) := by decide +kernel
theorem dX6_lookAt_43 : decode cX6_lookAt 43 = .ok (.aload_n 0, 1) := by decide +kernel
theorem dX6_lookAt_44 : decode cX6_lookAt 44 = .ok (.iconst 0, 1) := by decide +kernel
theorem dX6_lookAt_45 : decode cX6_lookAt 45 = .ok (.putfield 241, 3) := by decide +kernel
theorem dX6_lookAt_48 : decode cX6_lookAt 48 = .ok (.aload_n 0, 1) := by decide +kernel
theorem dX6_lookAt_49 : decode cX6_lookAt 49 = .ok (.iconst 0, 1) := by decide +kernel
theorem dX6_lookAt_50 : decode cX6_lookAt 50 = .ok (.putfield 244, 3) := by decide +kernel
theorem dX6_lookAt_53 : decode cX6_lookAt 53 = .ok (.aload_n 0, 1) := by decide +kernel
theorem dX6_lookAt_54 : decode cX6_lookAt 54 = .ok (.iconst 0, 1) := by decide +kernel
theorem dX6_lookAt_55 : decode cX6_lookAt 55 = .ok (.putfield 247, 3) := by decide +kernel
theorem dX6_lookAt_58 : decode cX6_lookAt 58 = .ok (.aload_n 0, 1) := by decide +kernel
theorem dX6_lookAt_59 : decode cX6_lookAt 59 = .ok (.getfield 238, 3) := by decide +kernel
theorem dX6_lookAt_62 : decode cX6_lookAt 62 = .ok (.aload_n 0, 1) := by decide +kernel
theorem dX6_lookAt_63 : decode cX6_lookAt 63 = .ok (.getfield 226, 3) := by decide +kernel
theorem dX6_lookAt_66 : decode cX6_lookAt 66 = .ok (.if_icmp .ne 4, 3) := by decide +kernel
theorem dX6_lookAt_69 : decode cX6_lookAt 69 = .ok (.return_, 1) := by decide +kernel
theorem dX6_lookAt_70 : decode cX6_lookAt 70 = .ok (.aload_n 0, 1) := by decide +kernel
theorem dX6_lookAt_71 : decode cX6_lookAt 71 = .ok (.getfield 39, 3) := by decide +kernel
theorem dX6_lookAt_74 : decode cX6_lookAt 74 = .ok (.aload_n 0, 1) := by decide +kernel
theorem dX6_lookAt_75 : decode cX6_lookAt 75 = .ok (.getfield 238, 3) := by decide +kernel
theorem dX6_lookAt_78 : decode cX6_lookAt 78 = .ok (.iaload, 1) := by decide +kernel
theorem dX6_lookAt_79 : decode cX6_lookAt 79 = .ok (.istore_n 2, 1) := by decide +kernel
theorem dX6_lookAt_80 : decode cX6_lookAt 80 = .ok (.aload_n 0, 1) := by decide +kernel
theorem dX6_lookAt_81 : decode cX6_lookAt 81 = .ok (.iload_n 2, 1) := by decide +kernel
theorem dX6_lookAt_82 : decode cX6_lookAt 82 = .ok (.invokestatic 250, 3) := by decide +kernel
theorem dX6_lookAt_85 : decode cX6_lookAt 85 = .ok (.ifCond .eq 7, 3) := by decide +kernel
theorem dX6_lookAt_88 : decode cX6_lookAt 88 = .ok (.iconst 1, 1) := by decide +kernel
theorem dX6_lookAt_89 : decode cX6_lookAt 89 = .ok (.goto 25, 3) := by decide +kernel
theorem dX6_lookAt_92 : decode cX6_lookAt 92 = .ok (.iload_n 2, 1) := by decide +kernel
theorem dX6_lookAt_93 : decode cX6_lookAt 93 = .ok (.invokestatic 253, 3) := by decide +kernel
theorem dX6_lookAt_96 : decode cX6_lookAt 96 = .ok (.ifCond .eq 7, 3) := by decide +kernel
theorem dX6_lookAt_99 : decode cX6_lookAt 99 = .ok (.iconst 2, 1) := by decide +kernel
theorem dX6_lookAt_100 : decode cX6_lookAt 100 = .ok (.goto 14, 3) := by decide +kernel
theorem dX6_lookAt_103 : decode cX6_lookAt 103 = .ok (.iload_n 2, 1) := by decide +kernel
theorem dX6_lookAt_104 : decode cX6_lookAt 104 = .ok (.bipush 59, 2) := by decide +kernel
theorem dX6_lookAt_106 : decode cX6_lookAt 106 = .ok (.if_icmp .ne 7, 3) := by decide +kernel
theorem dX6_lookAt_109 : decode cX6_lookAt 109 = .ok (.iconst 3, 1) := by decide +kernel
theorem dX6_lookAt_110 : decode cX6_lookAt 110 = .ok (.goto 4, 3) := by decide +kernel
theorem dX6_lookAt_113 : decode cX6_lookAt 113 = .ok (.iconst 4, 1) := by decide +kernel
theorem dX6_lookAt_114 : decode cX6_lookAt 114 = .ok (.putfield 244, 3) := by decide +kernel
theorem dX6_lookAt_117 : decode cX6_lookAt 117 = .ok (.aload_n 0, 1) := by decide +kernel
theorem dX6_lookAt_118 : decode cX6_lookAt 118 = .ok (.iconst 1, 1) := by decide +kernel
theorem dX6_lookAt_119 : decode cX6_lookAt 119 = .ok (.putfield 241, 3) := by decide +kernel
theorem dX6_lookAt_122 : decode cX6_lookAt 122 = .ok (.aload_n 0, 1) := by decide +kernel
theorem dX6_lookAt_123 : decode cX6_lookAt 123 = .ok (.getfield 244, 3) := by decide +kernel
theorem dX6_lookAt_126 : decode cX6_lookAt 126 = .ok (.iconst 3, 1) := by decide +kernel
theorem dX6_lookAt_127 : decode cX6_lookAt 127 = .ok (.if_icmp .ge 7, 3) := by decide +kernel
theorem dX6_lookAt_130 : decode cX6_lookAt 130 = .ok (.iconst 1, 1) := by decide +kernel
theorem dX6_lookAt_131 : decode cX6_lookAt 131 = .ok (.goto 4, 3) := by decide +kernel
theorem dX6_lookAt_134 : decode cX6_lookAt 134 = .ok (.iconst 0, 1) := by decide +kernel
theorem dX6_lookAt_135 : decode cX6_lookAt 135 = .ok (.istore_n 3, 1) := by decide +kernel
theorem dX6_lookAt_136 : decode cX6_lookAt 136 = .ok (.iload_n 3, 1) := by decide +kernel
theorem dX6_lookAt_137 : decode cX6_lookAt 137 = .ok (.ifCond .eq 78, 3) := by decide +kernel
theorem dX6_lookAt_140 : decode cX6_lookAt 140 = .ok (.aload_n 0, 1) := by decide +kernel
theorem dX6_lookAt_141 : decode cX6_lookAt 141 = .ok (.getfield 238, 3) := by decide +kernel
theorem dX6_lookAt_144 : decode cX6_lookAt 144 = .ok (.aload_n 0, 1) := by decide +kernel
theorem dX6_lookAt_145 : decode cX6_lookAt 145 = .ok (.getfield 241, 3) := by decide +kernel
theorem dX6_lookAt_148 : decode cX6_lookAt 148 = .ok (.iadd, 1) := by decide +kernel
theorem dX6_lookAt_149 : decode cX6_lookAt 149 = .ok (.aload_n 0, 1) := by decide +kernel
theorem dX6_lookAt_150 : decode cX6_lookAt 150 = .ok (.getfield 226, 3) := by decide +kernel
theorem dX6_lookAt_153 : decode cX6_lookAt 153 = .ok (.if_icmp .ge 62, 3) := by decide +kernel
theorem dX6_lookAt_156 : decode cX6_lookAt 156 = .ok (.aload_n 0, 1) := by decide +kernel
theorem dX6_lookAt_157 : decode cX6_lookAt 157 = .ok (.getfield 39, 3) := by decide +kernel
theorem dX6_lookAt_160 : decode cX6_lookAt 160 = .ok (.aload_n 0, 1) := by decide +kernel
theorem dX6_lookAt_161 : decode cX6_lookAt 161 = .ok (.getfield 238, 3) := by decide +kernel
theorem dX6_lookAt_164 : decode cX6_lookAt 164 = .ok (.aload_n 0, 1) := by decide +kernel
theorem dX6_lookAt_165 : decode cX6_lookAt 165 = .ok (.getfield 241, 3) := by decide +kernel
theorem dX6_lookAt_168 : decode cX6_lookAt 168 = .ok (.iadd, 1) := by decide +kernel
theorem dX6_lookAt_169 : decode cX6_lookAt 169 = .ok (.iaload, 1) := by decide +kernel
theorem dX6_lookAt_170 : decode cX6_lookAt 170 = .ok (.istore 4, 2) := by decide +kernel
theorem dX6_lookAt_172 : decode cX6_lookAt 172 = .ok (.aload_n 0, 1) := by decide +kernel
theorem dX6_lookAt_173 : decode cX6_lookAt 173 = .ok (.getfield 244, 3) := by decide +kernel
theorem dX6_lookAt_176 : decode cX6_lookAt 176 = .ok (.iconst 1, 1) := by decide +kernel
theorem dX6_lookAt_177 : decode cX6_lookAt 177 = .ok (.if_icmp .ne 11, 3) := by decide +kernel
theorem dX6_lookAt_180 : decode cX6_lookAt 180 = .ok (.iload 4, 2) := by decide +kernel
theorem dX6_lookAt_182 : decode cX6_lookAt 182 = .ok (.invokestatic 250, 3) := by decide +kernel
theorem dX6_lookAt_185 : decode cX6_lookAt 185 = .ok (.goto 8, 3) := by decide +kernel
theorem dX6_lookAt_188 : decode cX6_lookAt 188 = .ok (.iload 4, 2) := by decide +kernel
theorem dX6_lookAt_190 : decode cX6_lookAt 190 = .ok (.invokestatic 253, 3) := by decide +kernel
theorem dX6_lookAt_193 : decode cX6_lookAt 193 = .ok (.istore_n 3, 1) := by decide +kernel
theorem dX6_lookAt_194 : decode cX6_lookAt 194 = .ok (.aload_n 0, 1) := by decide +kernel
theorem dX6_lookAt_195 : decode cX6_lookAt 195 = .ok (.dup, 1) := by decide +kernel
theorem dX6_lookAt_196 : decode cX6_lookAt 196 = .ok (.getfield 241, 3) := by decide +kernel
theorem dX6_lookAt_199 : decode cX6_lookAt 199 = .ok (.iload_n 3, 1) := by decide +kernel
theorem dX6_lookAt_200 : decode cX6_lookAt 200 = .ok (.ifCond .eq 7, 3) := by decide +kernel
theorem dX6_lookAt_203 : decode cX6_lookAt 203 = .ok (.iconst 1, 1) := by decide +kernel
theorem dX6_lookAt_204 : decode cX6_lookAt 204 = .ok (.goto 4, 3) := by decide +kernel
theorem dX6_lookAt_207 : decode cX6_lookAt 207 = .ok (.iconst 0, 1) := by decide +kernel
theorem dX6_lookAt_208 : decode cX6_lookAt 208 = .ok (.iadd, 1) := by decide +kernel
theorem dX6_lookAt_209 : decode cX6_lookAt 209 = .ok (.putfield 241, 3) := by decide +kernel
theorem dX6_lookAt_212 : decode cX6_lookAt 212 = .ok (.goto (-76), 3) := by decide +kernel
theorem dX6_lookAt_215 : decode cX6_lookAt 215 = .ok (.iconst 0, 1) := by decide +kernel
theorem dX6_lookAt_216 : decode cX6_lookAt 216 = .ok (.istore 4, 2) := by decide +kernel
theorem dX6_lookAt_218 : decode cX6_lookAt 218 = .ok (.iload 4, 2) := by decide +kernel
theorem dX6_lookAt_220 : decode cX6_lookAt 220 = .ok (.aload_n 0, 1) := by decide +kernel
theorem dX6_lookAt_221 : decode cX6_lookAt 221 = .ok (.getfield 241, 3) := by decide +kernel
theorem dX6_lookAt_224 : decode cX6_lookAt 224 = .ok (.if_icmp .ge 50, 3) := by decide +kernel
theorem dX6_lookAt_227 : decode cX6_lookAt 227 = .ok (.iload 4, 2) := by decide +kernel
theorem dX6_lookAt_229 : decode cX6_lookAt 229 = .ok (.iconst 2, 1) := by decide +kernel
theorem dX6_lookAt_230 : decode cX6_lookAt 230 = .ok (.if_icmp .ge 44, 3) := by decide +kernel
theorem dX6_lookAt_233 : decode cX6_lookAt 233 = .ok (.aload_n 0, 1) := by decide +kernel
theorem dX6_lookAt_234 : decode cX6_lookAt 234 = .ok (.getfield 244, 3) := by decide +kernel
theorem dX6_lookAt_237 : decode cX6_lookAt 237 = .ok (.iconst 2, 1) := by decide +kernel
theorem dX6_lookAt_238 : decode cX6_lookAt 238 = .ok (.if_icmp .ne 36, 3) := by decide +kernel
theorem dX6_lookAt_241 : decode cX6_lookAt 241 = .ok (.aload_n 0, 1) := by decide +kernel
theorem dX6_lookAt_242 : decode cX6_lookAt 242 = .ok (.bipush 10, 2) := by decide +kernel
theorem dX6_lookAt_244 : decode cX6_lookAt 244 = .ok (.aload_n 0, 1) := by decide +kernel
theorem dX6_lookAt_245 : decode cX6_lookAt 245 = .ok (.getfield 247, 3) := by decide +kernel
theorem dX6_lookAt_248 : decode cX6_lookAt 248 = .ok (.imul, 1) := by decide +kernel
theorem dX6_lookAt_249 : decode cX6_lookAt 249 = .ok (.aload_n 0, 1) := by decide +kernel
theorem dX6_lookAt_250 : decode cX6_lookAt 250 = .ok (.getfield 39, 3) := by decide +kernel
theorem dX6_lookAt_253 : decode cX6_lookAt 253 = .ok (.aload_n 0, 1) := by decide +kernel
theorem dX6_lookAt_254 : decode cX6_lookAt 254 = .ok (.getfield 238, 3) := by decide +kernel
theorem dX6_lookAt_257 : decode cX6_lookAt 257 = .ok (.iload 4, 2) := by decide +kernel
theorem dX6_lookAt_259 : decode cX6_lookAt 259 = .ok (.iadd, 1) := by decide +kernel
theorem dX6_lookAt_260 : decode cX6_lookAt 260 = .ok (.iaload, 1) := by decide +kernel
theorem dX6_lookAt_261 : decode cX6_lookAt 261 = .ok (.iadd, 1) := by decide +kernel
theorem dX6_lookAt_262 : decode cX6_lookAt 262 = .ok (.bipush 48, 2) := by decide +kernel
theorem dX6_lookAt_264 : decode cX6_lookAt 264 = .ok (.isub, 1) := by decide +kernel
theorem dX6_lookAt_265 : decode cX6_lookAt 265 = .ok (.putfield 247, 3) := by decide +kernel
theorem dX6_lookAt_268 : decode cX6_lookAt 268 = .ok (.iinc 4 1, 3) := by decide +kernel
theorem dX6_lookAt_271 : decode cX6_lookAt 271 = .ok (.goto (-53), 3) := by decide +kernel
theorem dX6_lookAt_274 : decode cX6_lookAt 274 = .ok (.aload_n 0, 1) := by decide +kernel
theorem dX6_lookAt_275 : decode cX6_lookAt 275 = .ok (.aload_n 0, 1) := by decide +kernel
theorem dX6_lookAt_276 : decode cX6_lookAt 276 = .ok (.getfield 244, 3) := by decide +kernel
theorem dX6_lookAt_279 : decode cX6_lookAt 279 = .ok (.iconst 2, 1) := by decide +kernel
theorem dX6_lookAt_280 : decode cX6_lookAt 280 = .ok (.if_icmp .ne 15, 3) := by decide +kernel
theorem dX6_lookAt_283 : decode cX6_lookAt 283 = .ok (.aload_n 0, 1) := by decide +kernel
theorem dX6_lookAt_284 : decode cX6_lookAt 284 = .ok (.getfield 241, 3) := by decide +kernel
theorem dX6_lookAt_287 : decode cX6_lookAt 287 = .ok (.iconst 2, 1) := by decide +kernel
theorem dX6_lookAt_288 : decode cX6_lookAt 288 = .ok (.if_icmp .le 7, 3) := by decide +kernel
theorem dX6_lookAt_291 : decode cX6_lookAt 291 = .ok (.iconst 4, 1) := by decide +kernel
theorem dX6_lookAt_292 : decode cX6_lookAt 292 = .ok (.goto 7, 3) := by decide +kernel
theorem dX6_lookAt_295 : decode cX6_lookAt 295 = .ok (.aload_n 0, 1) := by decide +kernel
theorem dX6_lookAt_296 : decode cX6_lookAt 296 = .ok (.getfield 244, 3) := by decide +kernel
theorem dX6_lookAt_299 : decode cX6_lookAt 299 = .ok (.putfield 244, 3) := by decide +kernel
theorem dX6_lookAt_302 : decode cX6_lookAt 302 = .ok (.return_, 1) := by decide +kernel
theorem dX6_goBehind_0 : decode cX6_goBehind 0 = .ok (.aload_n 0, 1) := by decide +kernel
theorem dX6_goBehind_1 : decode cX6_goBehind 1 = .ok (.aload_n 0, 1) := by decide +kernel
theorem dX6_goBehind_2 : decode cX6_goBehind 2 = .ok (.getfield 238, 3) := by decide +kernel
theorem dX6_goBehind_5 : decode cX6_goBehind 5 = .ok (.aload_n 0, 1) := by decide +kernel
theorem dX6_goBehind_6 : decode cX6_goBehind 6 = .ok (.getfield 241, 3) := by decide +kernel
theorem dX6_goBehind_9 : decode cX6_goBehind 9 = .ok (.iadd, 1) := by decide +kernel
theorem dX6_goBehind_10 : decode cX6_goBehind 10 = .ok (.invokevirtual 256, 3) := by decide +kernel
theorem dX6_goBehind_13 : decode cX6_goBehind 13 = .ok (.return_, 1) := by decide +kernel
theorem dX6_spells_0 : decode cX6_spells 0 = .ok (.aload_n 0, 1) := by decide +kernel
theorem dX6_spells_1 : decode cX6_spells 1 = .ok (.getfield 244, 3) := by decide +kernel
theorem dX6_spells_4 : decode cX6_spells 4 = .ok (.iconst 1, 1) := by decide +kernel
theorem dX6_spells_5 : decode cX6_spells 5 = .ok (.if_icmp .ne 15, 3) := by decide +kernel
theorem dX6_spells_8 : decode cX6_spells 8 = .ok (.aload_n 0, 1) := by decide +kernel
theorem dX6_spells_9 : decode cX6_spells 9 = .ok (.getfield 241, 3) := by decide +kernel
theorem dX6_spells_12 : decode cX6_spells 12 = .ok (.iload_n 1, 1) := by decide +kernel
theorem dX6_spells_13 : decode cX6_spells 13 = .ok (.if_icmp .ne 7, 3) := by decide +kernel
theorem dX6_spells_16 : decode cX6_spells 16 = .ok (.iconst 1, 1) := by decide +kernel
theorem dX6_spells_17 : decode cX6_spells 17 = .ok (.goto 4, 3) := by decide +kernel
theorem dX6_spells_20 : decode cX6_spells 20 = .ok (.iconst 0, 1) := by decide +kernel
theorem dX6_spells_21 : decode cX6_spells 21 = .ok (.istore 8, 2) := by decide +kernel
theorem dX6_spells_23 : decode cX6_spells 23 = .ok (.iconst 0, 1) := by decide +kernel
theorem dX6_spells_24 : decode cX6_spells 24 = .ok (.istore 9, 2) := by decide +kernel
theorem dX6_spells_26 : decode cX6_spells 26 = .ok (.iload 9, 2) := by decide +kernel
theorem dX6_spells_28 : decode cX6_spells 28 = .ok (.iload_n 1, 1) := by decide +kernel
theorem dX6_spells_29 : decode cX6_spells 29 = .ok (.if_icmp .ge 90, 3) := by decide +kernel
theorem dX6_spells_32 : decode cX6_spells 32 = .ok (.iload 8, 2) := by decide +kernel
theorem dX6_spells_34 : decode cX6_spells 34 = .ok (.ifCond .eq 85, 3) := by decide +kernel
theorem dX6_spells_37 : decode cX6_spells 37 = .ok (.aload_n 0, 1) := by decide +kernel
theorem dX6_spells_38 : decode cX6_spells 38 = .ok (.getfield 39, 3) := by decide +kernel
theorem dX6_spells_41 : decode cX6_spells 41 = .ok (.aload_n 0, 1) := by decide +kernel
theorem dX6_spells_42 : decode cX6_spells 42 = .ok (.getfield 238, 3) := by decide +kernel
theorem dX6_spells_45 : decode cX6_spells 45 = .ok (.iload 9, 2) := by decide +kernel
theorem dX6_spells_47 : decode cX6_spells 47 = .ok (.iadd, 1) := by decide +kernel
theorem dX6_spells_48 : decode cX6_spells 48 = .ok (.iaload, 1) := by decide +kernel
theorem dX6_spells_49 : decode cX6_spells 49 = .ok (.iload 9, 2) := by decide +kernel
theorem dX6_spells_51 : decode cX6_spells 51 = .ok (.ifCond .ne 7, 3) := by decide +kernel
theorem dX6_spells_54 : decode cX6_spells 54 = .ok (.iload_n 2, 1) := by decide +kernel
theorem dX6_spells_55 : decode cX6_spells 55 = .ok (.goto 48, 3) := by decide +kernel
theorem dX6_spells_58 : decode cX6_spells 58 = .ok (.iload 9, 2) := by decide +kernel
theorem dX6_spells_60 : decode cX6_spells 60 = .ok (.iconst 1, 1) := by decide +kernel
theorem dX6_spells_61 : decode cX6_spells 61 = .ok (.if_icmp .ne 7, 3) := by decide +kernel
theorem dX6_spells_64 : decode cX6_spells 64 = .ok (.iload_n 3, 1) := by decide +kernel
theorem dX6_spells_65 : decode cX6_spells 65 = .ok (.goto 38, 3) := by decide +kernel
theorem dX6_spells_68 : decode cX6_spells 68 = .ok (.iload 9, 2) := by decide +kernel
theorem dX6_spells_70 : decode cX6_spells 70 = .ok (.iconst 2, 1) := by decide +kernel
theorem dX6_spells_71 : decode cX6_spells 71 = .ok (.if_icmp .ne 8, 3) := by decide +kernel
theorem dX6_spells_74 : decode cX6_spells 74 = .ok (.iload 4, 2) := by decide +kernel
theorem dX6_spells_76 : decode cX6_spells 76 = .ok (.goto 27, 3) := by decide +kernel
theorem dX6_spells_79 : decode cX6_spells 79 = .ok (.iload 9, 2) := by decide +kernel
theorem dX6_spells_81 : decode cX6_spells 81 = .ok (.iconst 3, 1) := by decide +kernel
theorem dX6_spells_82 : decode cX6_spells 82 = .ok (.if_icmp .ne 8, 3) := by decide +kernel
theorem dX6_spells_85 : decode cX6_spells 85 = .ok (.iload 5, 2) := by decide +kernel
theorem dX6_spells_87 : decode cX6_spells 87 = .ok (.goto 16, 3) := by decide +kernel
theorem dX6_spells_90 : decode cX6_spells 90 = .ok (.iload 9, 2) := by decide +kernel
theorem dX6_spells_92 : decode cX6_spells 92 = .ok (.iconst 4, 1) := by decide +kernel
theorem dX6_spells_93 : decode cX6_spells 93 = .ok (.if_icmp .ne 8, 3) := by decide +kernel
theorem dX6_spells_96 : decode cX6_spells 96 = .ok (.iload 6, 2) := by decide +kernel
theorem dX6_spells_98 : decode cX6_spells 98 = .ok (.goto 5, 3) := by decide +kernel
theorem dX6_spells_101 : decode cX6_spells 101 = .ok (.iload 7, 2) := by decide +kernel
theorem dX6_spells_103 : decode cX6_spells 103 = .ok (.if_icmp .ne 7, 3) := by decide +kernel
theorem dX6_spells_106 : decode cX6_spells 106 = .ok (.iconst 1, 1) := by decide +kernel
theorem dX6_spells_107 : decode cX6_spells 107 = .ok (.goto 4, 3) := by decide +kernel
theorem dX6_spells_110 : decode cX6_spells 110 = .ok (.iconst 0, 1) := by decide +kernel
theorem dX6_spells_111 : decode cX6_spells 111 = .ok (.istore 8, 2) := by decide +kernel
theorem dX6_spells_113 : decode cX6_spells 113 = .ok (.iinc 9 1, 3) := by decide +kernel
theorem dX6_spells_116 : decode cX6_spells 116 = .ok (.goto (-90), 3) := by decide +kernel
theorem dX6_spells_119 : decode cX6_spells 119 = .ok (.iload 8, 2) := by decide +kernel
theorem dX6_spells_121 : decode cX6_spells 121 = .ok (.ireturn, 1) := by decide +kernel
theorem dX6_takes_0 : decode cX6_takes 0 = .ok (.aload_n 0, 1) := by decide +kernel
theorem dX6_takes_1 : decode cX6_takes 1 = .ok (.getfield 244, 3) := by decide +kernel
theorem dX6_takes_4 : decode cX6_takes 4 = .ok (.iconst 2, 1) := by decide +kernel
theorem dX6_takes_5 : decode cX6_takes 5 = .ok (.if_icmp .ne 18, 3) := by decide +kernel
theorem dX6_takes_8 : decode cX6_takes 8 = .ok (.aload_n 0, 1) := by decide +kernel
theorem dX6_takes_9 : decode cX6_takes 9 = .ok (.getfield 247, 3) := by decide +kernel
theorem dX6_takes_12 : decode cX6_takes 12 = .ok (.i2l, 1) := by decide +kernel
theorem dX6_takes_13 : decode cX6_takes 13 = .ok (.iload_n 2, 1) := by decide +kernel
theorem dX6_takes_14 : decode cX6_takes 14 = .ok (.i2l, 1) := by decide +kernel
theorem dX6_takes_15 : decode cX6_takes 15 = .ok (.iload_n 3, 1) := by decide +kernel
theorem dX6_takes_16 : decode cX6_takes 16 = .ok (.i2l, 1) := by decide +kernel
theorem dX6_takes_17 : decode cX6_takes 17 = .ok (.invokestatic 56, 3) := by decide +kernel
theorem dX6_takes_20 : decode cX6_takes 20 = .ok (.ifCond .ne 5, 3) := by decide +kernel
theorem dX6_takes_23 : decode cX6_takes 23 = .ok (.iconst 0, 1) := by decide +kernel
theorem dX6_takes_24 : decode cX6_takes 24 = .ok (.ireturn, 1) := by decide +kernel
theorem dX6_takes_25 : decode cX6_takes 25 = .ok (.aload_n 0, 1) := by decide +kernel
theorem dX6_takes_26 : decode cX6_takes 26 = .ok (.getfield 45, 3) := by decide +kernel
theorem dX6_takes_29 : decode cX6_takes 29 = .ok (.iload_n 1, 1) := by decide +kernel
theorem dX6_takes_30 : decode cX6_takes 30 = .ok (.aload_n 0, 1) := by decide +kernel
theorem dX6_takes_31 : decode cX6_takes 31 = .ok (.getfield 247, 3) := by decide +kernel
theorem dX6_takes_34 : decode cX6_takes 34 = .ok (.iastore, 1) := by decide +kernel
theorem dX6_takes_35 : decode cX6_takes 35 = .ok (.aload_n 0, 1) := by decide +kernel
theorem dX6_takes_36 : decode cX6_takes 36 = .ok (.invokevirtual 260, 3) := by decide +kernel
theorem dX6_takes_39 : decode cX6_takes 39 = .ok (.iconst 1, 1) := by decide +kernel
theorem dX6_takes_40 : decode cX6_takes 40 = .ok (.ireturn, 1) := by decide +kernel
theorem dX6_takesPromise_0 : decode cX6_takesPromise 0 = .ok (.aload_n 0, 1) := by decide +kernel
theorem dX6_takesPromise_1 : decode cX6_takesPromise 1 = .ok (.getfield 42, 3) := by decide +kernel
theorem dX6_takesPromise_4 : decode cX6_takesPromise 4 = .ok (.iconst 0, 1) := by decide +kernel
theorem dX6_takesPromise_5 : decode cX6_takesPromise 5 = .ok (.iaload, 1) := by decide +kernel
theorem dX6_takesPromise_6 : decode cX6_takesPromise 6 = .ok (.bipush 7, 2) := by decide +kernel
theorem dX6_takesPromise_8 : decode cX6_takesPromise 8 = .ok (.if_icmp .ne 5, 3) := by decide +kernel
theorem dX6_takesPromise_11 : decode cX6_takesPromise 11 = .ok (.iconst 0, 1) := by decide +kernel
theorem dX6_takesPromise_12 : decode cX6_takesPromise 12 = .ok (.ireturn, 1) := by decide +kernel
theorem dX6_takesPromise_13 : decode cX6_takesPromise 13 = .ok (.aload_n 0, 1) := by decide +kernel
theorem dX6_takesPromise_14 : decode cX6_takesPromise 14 = .ok (.invokevirtual 260, 3) := by decide +kernel
theorem dX6_takesPromise_17 : decode cX6_takesPromise 17 = .ok (.aload_n 0, 1) := by decide +kernel
theorem dX6_takesPromise_18 : decode cX6_takesPromise 18 = .ok (.iconst 0, 1) := by decide +kernel
theorem dX6_takesPromise_19 : decode cX6_takesPromise 19 = .ok (.iconst 0, 1) := by decide +kernel
theorem dX6_takesPromise_20 : decode cX6_takesPromise 20 = .ok (.iconst 5, 1) := by decide +kernel
theorem dX6_takesPromise_21 : decode cX6_takesPromise 21 = .ok (.invokevirtual 263, 3) := by decide +kernel
theorem dX6_takesPromise_24 : decode cX6_takesPromise 24 = .ok (.ifCond .eq 14, 3) := by decide +kernel
theorem dX6_takesPromise_27 : decode cX6_takesPromise 27 = .ok (.aload_n 0, 1) := by decide +kernel
theorem dX6_takesPromise_28 : decode cX6_takesPromise 28 = .ok (.iconst 1, 1) := by decide +kernel
theorem dX6_takesPromise_29 : decode cX6_takesPromise 29 = .ok (.iconst 1, 1) := by decide +kernel
theorem dX6_takesPromise_30 : decode cX6_takesPromise 30 = .ok (.bipush 9, 2) := by decide +kernel
theorem dX6_takesPromise_32 : decode cX6_takesPromise 32 = .ok (.invokevirtual 263, 3) := by decide +kernel
theorem dX6_takesPromise_35 : decode cX6_takesPromise 35 = .ok (.ifCond .ne 5, 3) := by decide +kernel
theorem dX6_takesPromise_38 : decode cX6_takesPromise 38 = .ok (.iconst 0, 1) := by decide +kernel
theorem dX6_takesPromise_39 : decode cX6_takesPromise 39 = .ok (.ireturn, 1) := by decide +kernel
theorem dX6_takesPromise_40 : decode cX6_takesPromise 40 = .ok (.aload_n 0, 1) := by decide +kernel
theorem dX6_takesPromise_41 : decode cX6_takesPromise 41 = .ok (.getfield 42, 3) := by decide +kernel
theorem dX6_takesPromise_44 : decode cX6_takesPromise 44 = .ok (.aload_n 0, 1) := by decide +kernel
theorem dX6_takesPromise_45 : decode cX6_takesPromise 45 = .ok (.getfield 45, 3) := by decide +kernel
theorem dX6_takesPromise_48 : decode cX6_takesPromise 48 = .ok (.iconst 0, 1) := by decide +kernel
theorem dX6_takesPromise_49 : decode cX6_takesPromise 49 = .ok (.iaload, 1) := by decide +kernel
theorem dX6_takesPromise_50 : decode cX6_takesPromise 50 = .ok (.aload_n 0, 1) := by decide +kernel
theorem dX6_takesPromise_51 : decode cX6_takesPromise 51 = .ok (.getfield 45, 3) := by decide +kernel
theorem dX6_takesPromise_54 : decode cX6_takesPromise 54 = .ok (.iconst 1, 1) := by decide +kernel
theorem dX6_takesPromise_55 : decode cX6_takesPromise 55 = .ok (.iaload, 1) := by decide +kernel
theorem dX6_takesPromise_56 : decode cX6_takesPromise 56 = .ok (.invokestatic 78, 3) := by decide +kernel
theorem dX6_takesPromise_59 : decode cX6_takesPromise 59 = .ok (.iconst 1, 1) := by decide +kernel
theorem dX6_takesPromise_60 : decode cX6_takesPromise 60 = .ok (.ireturn, 1) := by decide +kernel
theorem dX6_takesHearer_0 : decode cX6_takesHearer 0 = .ok (.aload_n 0, 1) := by decide +kernel
theorem dX6_takesHearer_1 : decode cX6_takesHearer 1 = .ok (.getfield 42, 3) := by decide +kernel
theorem dX6_takesHearer_4 : decode cX6_takesHearer 4 = .ok (.iconst 1, 1) := by decide +kernel
theorem dX6_takesHearer_5 : decode cX6_takesHearer 5 = .ok (.iaload, 1) := by decide +kernel
theorem dX6_takesHearer_6 : decode cX6_takesHearer 6 = .ok (.iconst 4, 1) := by decide +kernel
theorem dX6_takesHearer_7 : decode cX6_takesHearer 7 = .ok (.if_icmp .ne 5, 3) := by decide +kernel
theorem dX6_takesHearer_10 : decode cX6_takesHearer 10 = .ok (.iconst 0, 1) := by decide +kernel
theorem dX6_takesHearer_11 : decode cX6_takesHearer 11 = .ok (.ireturn, 1) := by decide +kernel
theorem dX6_takesHearer_12 : decode cX6_takesHearer 12 = .ok (.aload_n 0, 1) := by decide +kernel
theorem dX6_takesHearer_13 : decode cX6_takesHearer 13 = .ok (.invokevirtual 260, 3) := by decide +kernel
theorem dX6_takesHearer_16 : decode cX6_takesHearer 16 = .ok (.aload_n 0, 1) := by decide +kernel
theorem dX6_takesHearer_17 : decode cX6_takesHearer 17 = .ok (.iconst 0, 1) := by decide +kernel
theorem dX6_takesHearer_18 : decode cX6_takesHearer 18 = .ok (.iconst 0, 1) := by decide +kernel
theorem dX6_takesHearer_19 : decode cX6_takesHearer 19 = .ok (.iconst 5, 1) := by decide +kernel
theorem dX6_takesHearer_20 : decode cX6_takesHearer 20 = .ok (.invokevirtual 263, 3) := by decide +kernel
theorem dX6_takesHearer_23 : decode cX6_takesHearer 23 = .ok (.ifCond .eq 14, 3) := by decide +kernel
theorem dX6_takesHearer_26 : decode cX6_takesHearer 26 = .ok (.aload_n 0, 1) := by decide +kernel
theorem dX6_takesHearer_27 : decode cX6_takesHearer 27 = .ok (.iconst 1, 1) := by decide +kernel
theorem dX6_takesHearer_28 : decode cX6_takesHearer 28 = .ok (.iconst 1, 1) := by decide +kernel
theorem dX6_takesHearer_29 : decode cX6_takesHearer 29 = .ok (.bipush 9, 2) := by decide +kernel
theorem dX6_takesHearer_31 : decode cX6_takesHearer 31 = .ok (.invokevirtual 263, 3) := by decide +kernel
theorem dX6_takesHearer_34 : decode cX6_takesHearer 34 = .ok (.ifCond .ne 5, 3) := by decide +kernel
theorem dX6_takesHearer_37 : decode cX6_takesHearer 37 = .ok (.iconst 0, 1) := by decide +kernel
theorem dX6_takesHearer_38 : decode cX6_takesHearer 38 = .ok (.ireturn, 1) := by decide +kernel
theorem dX6_takesHearer_39 : decode cX6_takesHearer 39 = .ok (.aload_n 0, 1) := by decide +kernel
theorem dX6_takesHearer_40 : decode cX6_takesHearer 40 = .ok (.getfield 42, 3) := by decide +kernel
theorem dX6_takesHearer_43 : decode cX6_takesHearer 43 = .ok (.bipush 40, 2) := by decide +kernel
theorem dX6_takesHearer_45 : decode cX6_takesHearer 45 = .ok (.aload_n 0, 1) := by decide +kernel
theorem dX6_takesHearer_46 : decode cX6_takesHearer 46 = .ok (.getfield 42, 3) := by decide +kernel
theorem dX6_takesHearer_49 : decode cX6_takesHearer 49 = .ok (.iconst 1, 1) := by decide +kernel
theorem dX6_takesHearer_50 : decode cX6_takesHearer 50 = .ok (.iaload, 1) := by decide +kernel
theorem dX6_takesHearer_51 : decode cX6_takesHearer 51 = .ok (.iadd, 1) := by decide +kernel
theorem dX6_takesHearer_52 : decode cX6_takesHearer 52 = .ok (.aload_n 0, 1) := by decide +kernel
theorem dX6_takesHearer_53 : decode cX6_takesHearer 53 = .ok (.getfield 45, 3) := by decide +kernel
theorem dX6_takesHearer_56 : decode cX6_takesHearer 56 = .ok (.iconst 0, 1) := by decide +kernel
theorem dX6_takesHearer_57 : decode cX6_takesHearer 57 = .ok (.iaload, 1) := by decide +kernel
theorem dX6_takesHearer_58 : decode cX6_takesHearer 58 = .ok (.iastore, 1) := by decide +kernel
theorem dX6_takesHearer_59 : decode cX6_takesHearer 59 = .ok (.aload_n 0, 1) := by decide +kernel
theorem dX6_takesHearer_60 : decode cX6_takesHearer 60 = .ok (.getfield 42, 3) := by decide +kernel
theorem dX6_takesHearer_63 : decode cX6_takesHearer 63 = .ok (.bipush 44, 2) := by decide +kernel
theorem dX6_takesHearer_65 : decode cX6_takesHearer 65 = .ok (.aload_n 0, 1) := by decide +kernel
theorem dX6_takesHearer_66 : decode cX6_takesHearer 66 = .ok (.getfield 42, 3) := by decide +kernel
theorem dX6_takesHearer_69 : decode cX6_takesHearer 69 = .ok (.iconst 1, 1) := by decide +kernel
theorem dX6_takesHearer_70 : decode cX6_takesHearer 70 = .ok (.iaload, 1) := by decide +kernel
theorem dX6_takesHearer_71 : decode cX6_takesHearer 71 = .ok (.iadd, 1) := by decide +kernel
theorem dX6_takesHearer_72 : decode cX6_takesHearer 72 = .ok (.aload_n 0, 1) := by decide +kernel
theorem dX6_takesHearer_73 : decode cX6_takesHearer 73 = .ok (.getfield 45, 3) := by decide +kernel
theorem dX6_takesHearer_76 : decode cX6_takesHearer 76 = .ok (.iconst 1, 1) := by decide +kernel
theorem dX6_takesHearer_77 : decode cX6_takesHearer 77 = .ok (.iaload, 1) := by decide +kernel
theorem dX6_takesHearer_78 : decode cX6_takesHearer 78 = .ok (.iastore, 1) := by decide +kernel
theorem dX6_takesHearer_79 : decode cX6_takesHearer 79 = .ok (.aload_n 0, 1) := by decide +kernel
theorem dX6_takesHearer_80 : decode cX6_takesHearer 80 = .ok (.getfield 42, 3) := by decide +kernel
theorem dX6_takesHearer_83 : decode cX6_takesHearer 83 = .ok (.iconst 1, 1) := by decide +kernel
theorem dX6_takesHearer_84 : decode cX6_takesHearer 84 = .ok (.dup2, 1) := by decide +kernel
theorem dX6_takesHearer_85 : decode cX6_takesHearer 85 = .ok (.iaload, 1) := by decide +kernel
theorem dX6_takesHearer_86 : decode cX6_takesHearer 86 = .ok (.iconst 1, 1) := by decide +kernel
theorem dX6_takesHearer_87 : decode cX6_takesHearer 87 = .ok (.iadd, 1) := by decide +kernel
theorem dX6_takesHearer_88 : decode cX6_takesHearer 88 = .ok (.iastore, 1) := by decide +kernel
theorem dX6_takesHearer_89 : decode cX6_takesHearer 89 = .ok (.iconst 1, 1) := by decide +kernel
theorem dX6_takesHearer_90 : decode cX6_takesHearer 90 = .ok (.ireturn, 1) := by decide +kernel
theorem dX6_takesBuyer_0 : decode cX6_takesBuyer 0 = .ok (.aload_n 0, 1) := by decide +kernel
theorem dX6_takesBuyer_1 : decode cX6_takesBuyer 1 = .ok (.getfield 42, 3) := by decide +kernel
theorem dX6_takesBuyer_4 : decode cX6_takesBuyer 4 = .ok (.iconst 2, 1) := by decide +kernel
theorem dX6_takesBuyer_5 : decode cX6_takesBuyer 5 = .ok (.iaload, 1) := by decide +kernel
theorem dX6_takesBuyer_6 : decode cX6_takesBuyer 6 = .ok (.iconst 3, 1) := by decide +kernel
theorem dX6_takesBuyer_7 : decode cX6_takesBuyer 7 = .ok (.if_icmp .ne 5, 3) := by decide +kernel
theorem dX6_takesBuyer_10 : decode cX6_takesBuyer 10 = .ok (.iconst 0, 1) := by decide +kernel
theorem dX6_takesBuyer_11 : decode cX6_takesBuyer 11 = .ok (.ireturn, 1) := by decide +kernel
theorem dX6_takesBuyer_12 : decode cX6_takesBuyer 12 = .ok (.aload_n 0, 1) := by decide +kernel
theorem dX6_takesBuyer_13 : decode cX6_takesBuyer 13 = .ok (.invokevirtual 260, 3) := by decide +kernel
theorem dX6_takesBuyer_16 : decode cX6_takesBuyer 16 = .ok (.aload_n 0, 1) := by decide +kernel
theorem dX6_takesBuyer_17 : decode cX6_takesBuyer 17 = .ok (.iconst 0, 1) := by decide +kernel
theorem dX6_takesBuyer_18 : decode cX6_takesBuyer 18 = .ok (.iconst 0, 1) := by decide +kernel
theorem dX6_takesBuyer_19 : decode cX6_takesBuyer 19 = .ok (.bipush 99, 2) := by decide +kernel
theorem dX6_takesBuyer_21 : decode cX6_takesBuyer 21 = .ok (.invokevirtual 263, 3) := by decide +kernel
theorem dX6_takesBuyer_24 : decode cX6_takesBuyer 24 = .ok (.ifCond .ne 5, 3) := by decide +kernel
theorem dX6_takesBuyer_27 : decode cX6_takesBuyer 27 = .ok (.iconst 0, 1) := by decide +kernel
theorem dX6_takesBuyer_28 : decode cX6_takesBuyer 28 = .ok (.ireturn, 1) := by decide +kernel
theorem dX6_takesBuyer_29 : decode cX6_takesBuyer 29 = .ok (.aload_n 0, 1) := by decide +kernel
theorem dX6_takesBuyer_30 : decode cX6_takesBuyer 30 = .ok (.getfield 42, 3) := by decide +kernel
theorem dX6_takesBuyer_33 : decode cX6_takesBuyer 33 = .ok (.bipush 21, 2) := by decide +kernel
theorem dX6_takesBuyer_35 : decode cX6_takesBuyer 35 = .ok (.aload_n 0, 1) := by decide +kernel
theorem dX6_takesBuyer_36 : decode cX6_takesBuyer 36 = .ok (.getfield 42, 3) := by decide +kernel
theorem dX6_takesBuyer_39 : decode cX6_takesBuyer 39 = .ok (.iconst 2, 1) := by decide +kernel
theorem dX6_takesBuyer_40 : decode cX6_takesBuyer 40 = .ok (.iaload, 1) := by decide +kernel
theorem dX6_takesBuyer_41 : decode cX6_takesBuyer 41 = .ok (.iadd, 1) := by decide +kernel
theorem dX6_takesBuyer_42 : decode cX6_takesBuyer 42 = .ok (.aload_n 0, 1) := by decide +kernel
theorem dX6_takesBuyer_43 : decode cX6_takesBuyer 43 = .ok (.getfield 45, 3) := by decide +kernel
theorem dX6_takesBuyer_46 : decode cX6_takesBuyer 46 = .ok (.iconst 0, 1) := by decide +kernel
theorem dX6_takesBuyer_47 : decode cX6_takesBuyer 47 = .ok (.iaload, 1) := by decide +kernel
theorem dX6_takesBuyer_48 : decode cX6_takesBuyer 48 = .ok (.iastore, 1) := by decide +kernel
theorem dX6_takesBuyer_49 : decode cX6_takesBuyer 49 = .ok (.aload_n 0, 1) := by decide +kernel
theorem dX6_takesBuyer_50 : decode cX6_takesBuyer 50 = .ok (.getfield 42, 3) := by decide +kernel
theorem dX6_takesBuyer_53 : decode cX6_takesBuyer 53 = .ok (.iconst 2, 1) := by decide +kernel
theorem dX6_takesBuyer_54 : decode cX6_takesBuyer 54 = .ok (.dup2, 1) := by decide +kernel
theorem dX6_takesBuyer_55 : decode cX6_takesBuyer 55 = .ok (.iaload, 1) := by decide +kernel
theorem dX6_takesBuyer_56 : decode cX6_takesBuyer 56 = .ok (.iconst 1, 1) := by decide +kernel
theorem dX6_takesBuyer_57 : decode cX6_takesBuyer 57 = .ok (.iadd, 1) := by decide +kernel
theorem dX6_takesBuyer_58 : decode cX6_takesBuyer 58 = .ok (.iastore, 1) := by decide +kernel
theorem dX6_takesBuyer_59 : decode cX6_takesBuyer 59 = .ok (.iconst 1, 1) := by decide +kernel
theorem dX6_takesBuyer_60 : decode cX6_takesBuyer 60 = .ok (.ireturn, 1) := by decide +kernel
theorem dX6_takesBuy_0 : decode cX6_takesBuy 0 = .ok (.aload_n 0, 1) := by decide +kernel
theorem dX6_takesBuy_1 : decode cX6_takesBuy 1 = .ok (.invokevirtual 260, 3) := by decide +kernel
theorem dX6_takesBuy_4 : decode cX6_takesBuy 4 = .ok (.aload_n 0, 1) := by decide +kernel
theorem dX6_takesBuy_5 : decode cX6_takesBuy 5 = .ok (.iconst 0, 1) := by decide +kernel
theorem dX6_takesBuy_6 : decode cX6_takesBuy 6 = .ok (.iconst 0, 1) := by decide +kernel
theorem dX6_takesBuy_7 : decode cX6_takesBuy 7 = .ok (.aload_n 0, 1) := by decide +kernel
theorem dX6_takesBuy_8 : decode cX6_takesBuy 8 = .ok (.getfield 42, 3) := by decide +kernel
theorem dX6_takesBuy_11 : decode cX6_takesBuy 11 = .ok (.iconst 2, 1) := by decide +kernel
theorem dX6_takesBuy_12 : decode cX6_takesBuy 12 = .ok (.iaload, 1) := by decide +kernel
theorem dX6_takesBuy_13 : decode cX6_takesBuy 13 = .ok (.iconst 1, 1) := by decide +kernel
theorem dX6_takesBuy_14 : decode cX6_takesBuy 14 = .ok (.isub, 1) := by decide +kernel
theorem dX6_takesBuy_15 : decode cX6_takesBuy 15 = .ok (.invokevirtual 263, 3) := by decide +kernel
theorem dX6_takesBuy_18 : decode cX6_takesBuy 18 = .ok (.ifCond .eq 52, 3) := by decide +kernel
theorem dX6_takesBuy_21 : decode cX6_takesBuy 21 = .ok (.aload_n 0, 1) := by decide +kernel
theorem dX6_takesBuy_22 : decode cX6_takesBuy 22 = .ok (.getfield 244, 3) := by decide +kernel
theorem dX6_takesBuy_25 : decode cX6_takesBuy 25 = .ok (.iconst 2, 1) := by decide +kernel
theorem dX6_takesBuy_26 : decode cX6_takesBuy 26 = .ok (.if_icmp .ne 44, 3) := by decide +kernel
theorem dX6_takesBuy_29 : decode cX6_takesBuy 29 = .ok (.aload_n 0, 1) := by decide +kernel
theorem dX6_takesBuy_30 : decode cX6_takesBuy 30 = .ok (.getfield 247, 3) := by decide +kernel
theorem dX6_takesBuy_33 : decode cX6_takesBuy 33 = .ok (.i2l, 1) := by decide +kernel
theorem dX6_takesBuy_34 : decode cX6_takesBuy 34 = .ok (.lconst 0, 1) := by decide +kernel
theorem dX6_takesBuy_35 : decode cX6_takesBuy 35 = .ok (.aload_n 0, 1) := by decide +kernel
theorem dX6_takesBuy_36 : decode cX6_takesBuy 36 = .ok (.getfield 42, 3) := by decide +kernel
theorem dX6_takesBuy_39 : decode cX6_takesBuy 39 = .ok (.iconst 0, 1) := by decide +kernel
theorem dX6_takesBuy_40 : decode cX6_takesBuy 40 = .ok (.iaload, 1) := by decide +kernel
theorem dX6_takesBuy_41 : decode cX6_takesBuy 41 = .ok (.iconst 1, 1) := by decide +kernel
theorem dX6_takesBuy_42 : decode cX6_takesBuy 42 = .ok (.isub, 1) := by decide +kernel
theorem dX6_takesBuy_43 : decode cX6_takesBuy 43 = .ok (.i2l, 1) := by decide +kernel
theorem dX6_takesBuy_44 : decode cX6_takesBuy 44 = .ok (.invokestatic 56, 3) := by decide +kernel
theorem dX6_takesBuy_47 : decode cX6_takesBuy 47 = .ok (.ifCond .eq 23, 3) := by decide +kernel
theorem dX6_takesBuy_50 : decode cX6_takesBuy 50 = .ok (.aload_n 0, 1) := by decide +kernel
theorem dX6_takesBuy_51 : decode cX6_takesBuy 51 = .ok (.getfield 42, 3) := by decide +kernel
theorem dX6_takesBuy_54 : decode cX6_takesBuy 54 = .ok (.aload_n 0, 1) := by decide +kernel
theorem dX6_takesBuy_55 : decode cX6_takesBuy 55 = .ok (.getfield 45, 3) := by decide +kernel
theorem dX6_takesBuy_58 : decode cX6_takesBuy 58 = .ok (.iconst 0, 1) := by decide +kernel
theorem dX6_takesBuy_59 : decode cX6_takesBuy 59 = .ok (.iaload, 1) := by decide +kernel
theorem dX6_takesBuy_60 : decode cX6_takesBuy 60 = .ok (.aload_n 0, 1) := by decide +kernel
theorem dX6_takesBuy_61 : decode cX6_takesBuy 61 = .ok (.getfield 247, 3) := by decide +kernel
theorem dX6_takesBuy_64 : decode cX6_takesBuy 64 = .ok (.invokestatic 124, 3) := by decide +kernel
theorem dX6_takesBuy_67 : decode cX6_takesBuy 67 = .ok (.ifCond .ne 5, 3) := by decide +kernel
theorem dX6_takesBuy_70 : decode cX6_takesBuy 70 = .ok (.iconst 0, 1) := by decide +kernel
theorem dX6_takesBuy_71 : decode cX6_takesBuy 71 = .ok (.ireturn, 1) := by decide +kernel
theorem dX6_takesBuy_72 : decode cX6_takesBuy 72 = .ok (.aload_n 0, 1) := by decide +kernel
theorem dX6_takesBuy_73 : decode cX6_takesBuy 73 = .ok (.getfield 42, 3) := by decide +kernel
theorem dX6_takesBuy_76 : decode cX6_takesBuy 76 = .ok (.aload_n 0, 1) := by decide +kernel
theorem dX6_takesBuy_77 : decode cX6_takesBuy 77 = .ok (.getfield 45, 3) := by decide +kernel
theorem dX6_takesBuy_80 : decode cX6_takesBuy 80 = .ok (.iconst 0, 1) := by decide +kernel
theorem dX6_takesBuy_81 : decode cX6_takesBuy 81 = .ok (.iaload, 1) := by decide +kernel
theorem dX6_takesBuy_82 : decode cX6_takesBuy 82 = .ok (.aload_n 0, 1) := by decide +kernel
theorem dX6_takesBuy_83 : decode cX6_takesBuy 83 = .ok (.getfield 247, 3) := by decide +kernel
theorem dX6_takesBuy_86 : decode cX6_takesBuy 86 = .ok (.invokestatic 131, 3) := by decide +kernel
theorem dX6_takesBuy_89 : decode cX6_takesBuy 89 = .ok (.aload_n 0, 1) := by decide +kernel
theorem dX6_takesBuy_90 : decode cX6_takesBuy 90 = .ok (.invokevirtual 260, 3) := by decide +kernel
theorem dX6_takesBuy_93 : decode cX6_takesBuy 93 = .ok (.iconst 1, 1) := by decide +kernel
theorem dX6_takesBuy_94 : decode cX6_takesBuy 94 = .ok (.ireturn, 1) := by decide +kernel
theorem dX6_takesKeep_0 : decode cX6_takesKeep 0 = .ok (.aload_n 0, 1) := by decide +kernel
theorem dX6_takesKeep_1 : decode cX6_takesKeep 1 = .ok (.invokevirtual 260, 3) := by decide +kernel
theorem dX6_takesKeep_4 : decode cX6_takesKeep 4 = .ok (.aload_n 0, 1) := by decide +kernel
theorem dX6_takesKeep_5 : decode cX6_takesKeep 5 = .ok (.getfield 244, 3) := by decide +kernel
theorem dX6_takesKeep_8 : decode cX6_takesKeep 8 = .ok (.iconst 2, 1) := by decide +kernel
theorem dX6_takesKeep_9 : decode cX6_takesKeep 9 = .ok (.if_icmp .ne 66, 3) := by decide +kernel
theorem dX6_takesKeep_12 : decode cX6_takesKeep 12 = .ok (.aload_n 0, 1) := by decide +kernel
theorem dX6_takesKeep_13 : decode cX6_takesKeep 13 = .ok (.getfield 247, 3) := by decide +kernel
theorem dX6_takesKeep_16 : decode cX6_takesKeep 16 = .ok (.i2l, 1) := by decide +kernel
theorem dX6_takesKeep_17 : decode cX6_takesKeep 17 = .ok (.lconst 0, 1) := by decide +kernel
theorem dX6_takesKeep_18 : decode cX6_takesKeep 18 = .ok (.aload_n 0, 1) := by decide +kernel
theorem dX6_takesKeep_19 : decode cX6_takesKeep 19 = .ok (.getfield 42, 3) := by decide +kernel
theorem dX6_takesKeep_22 : decode cX6_takesKeep 22 = .ok (.iconst 0, 1) := by decide +kernel
theorem dX6_takesKeep_23 : decode cX6_takesKeep 23 = .ok (.iaload, 1) := by decide +kernel
theorem dX6_takesKeep_24 : decode cX6_takesKeep 24 = .ok (.iconst 1, 1) := by decide +kernel
theorem dX6_takesKeep_25 : decode cX6_takesKeep 25 = .ok (.isub, 1) := by decide +kernel
theorem dX6_takesKeep_26 : decode cX6_takesKeep 26 = .ok (.i2l, 1) := by decide +kernel
theorem dX6_takesKeep_27 : decode cX6_takesKeep 27 = .ok (.invokestatic 56, 3) := by decide +kernel
theorem dX6_takesKeep_30 : decode cX6_takesKeep 30 = .ok (.ifCond .eq 45, 3) := by decide +kernel
theorem dX6_takesKeep_33 : decode cX6_takesKeep 33 = .ok (.aload_n 0, 1) := by decide +kernel
theorem dX6_takesKeep_34 : decode cX6_takesKeep 34 = .ok (.getfield 42, 3) := by decide +kernel
theorem dX6_takesKeep_37 : decode cX6_takesKeep 37 = .ok (.aload_n 0, 1) := by decide +kernel
theorem dX6_takesKeep_38 : decode cX6_takesKeep 38 = .ok (.getfield 247, 3) := by decide +kernel
theorem dX6_takesKeep_41 : decode cX6_takesKeep 41 = .ok (.invokestatic 137, 3) := by decide +kernel
theorem dX6_takesKeep_44 : decode cX6_takesKeep 44 = .ok (.ifCond .eq 31, 3) := by decide +kernel
theorem dX6_takesKeep_47 : decode cX6_takesKeep 47 = .ok (.aload_n 0, 1) := by decide +kernel
theorem dX6_takesKeep_48 : decode cX6_takesKeep 48 = .ok (.iconst 0, 1) := by decide +kernel
theorem dX6_takesKeep_49 : decode cX6_takesKeep 49 = .ok (.iconst 0, 1) := by decide +kernel
theorem dX6_takesKeep_50 : decode cX6_takesKeep 50 = .ok (.bipush 6, 2) := by decide +kernel
theorem dX6_takesKeep_52 : decode cX6_takesKeep 52 = .ok (.invokevirtual 263, 3) := by decide +kernel
theorem dX6_takesKeep_55 : decode cX6_takesKeep 55 = .ok (.ifCond .eq 20, 3) := by decide +kernel
theorem dX6_takesKeep_58 : decode cX6_takesKeep 58 = .ok (.aload_n 0, 1) := by decide +kernel
theorem dX6_takesKeep_59 : decode cX6_takesKeep 59 = .ok (.iconst 1, 1) := by decide +kernel
theorem dX6_takesKeep_60 : decode cX6_takesKeep 60 = .ok (.iconst 0, 1) := by decide +kernel
theorem dX6_takesKeep_61 : decode cX6_takesKeep 61 = .ok (.aload_n 0, 1) := by decide +kernel
theorem dX6_takesKeep_62 : decode cX6_takesKeep 62 = .ok (.getfield 42, 3) := by decide +kernel
theorem dX6_takesKeep_65 : decode cX6_takesKeep 65 = .ok (.iconst 1, 1) := by decide +kernel
theorem dX6_takesKeep_66 : decode cX6_takesKeep 66 = .ok (.iaload, 1) := by decide +kernel
theorem dX6_takesKeep_67 : decode cX6_takesKeep 67 = .ok (.iconst 1, 1) := by decide +kernel
theorem dX6_takesKeep_68 : decode cX6_takesKeep 68 = .ok (.isub, 1) := by decide +kernel
theorem dX6_takesKeep_69 : decode cX6_takesKeep 69 = .ok (.invokevirtual 263, 3) := by decide +kernel
theorem dX6_takesKeep_72 : decode cX6_takesKeep 72 = .ok (.ifCond .ne 5, 3) := by decide +kernel
theorem dX6_takesKeep_75 : decode cX6_takesKeep 75 = .ok (.iconst 0, 1) := by decide +kernel
theorem dX6_takesKeep_76 : decode cX6_takesKeep 76 = .ok (.ireturn, 1) := by decide +kernel
theorem dX6_takesKeep_77 : decode cX6_takesKeep 77 = .ok (.aload_n 0, 1) := by decide +kernel
theorem dX6_takesKeep_78 : decode cX6_takesKeep 78 = .ok (.getfield 42, 3) := by decide +kernel
theorem dX6_takesKeep_81 : decode cX6_takesKeep 81 = .ok (.aload_n 0, 1) := by decide +kernel
theorem dX6_takesKeep_82 : decode cX6_takesKeep 82 = .ok (.getfield 45, 3) := by decide +kernel
theorem dX6_takesKeep_85 : decode cX6_takesKeep 85 = .ok (.iconst 0, 1) := by decide +kernel
theorem dX6_takesKeep_86 : decode cX6_takesKeep 86 = .ok (.iaload, 1) := by decide +kernel
theorem dX6_takesKeep_87 : decode cX6_takesKeep 87 = .ok (.aload_n 0, 1) := by decide +kernel
theorem dX6_takesKeep_88 : decode cX6_takesKeep 88 = .ok (.getfield 45, 3) := by decide +kernel
theorem dX6_takesKeep_91 : decode cX6_takesKeep 91 = .ok (.iconst 1, 1) := by decide +kernel
theorem dX6_takesKeep_92 : decode cX6_takesKeep 92 = .ok (.iaload, 1) := by decide +kernel
theorem dX6_takesKeep_93 : decode cX6_takesKeep 93 = .ok (.invokestatic 140, 3) := by decide +kernel
theorem dX6_takesKeep_96 : decode cX6_takesKeep 96 = .ok (.iconst 1, 1) := by decide +kernel
theorem dX6_takesKeep_97 : decode cX6_takesKeep 97 = .ok (.ireturn, 1) := by decide +kernel
theorem dX6_takesDays_0 : decode cX6_takesDays 0 = .ok (.aload_n 0, 1) := by decide +kernel
theorem dX6_takesDays_1 : decode cX6_takesDays 1 = .ok (.invokevirtual 260, 3) := by decide +kernel
theorem dX6_takesDays_4 : decode cX6_takesDays 4 = .ok (.aload_n 0, 1) := by decide +kernel
theorem dX6_takesDays_5 : decode cX6_takesDays 5 = .ok (.iconst 0, 1) := by decide +kernel
theorem dX6_takesDays_6 : decode cX6_takesDays 6 = .ok (.iconst 1, 1) := by decide +kernel
theorem dX6_takesDays_7 : decode cX6_takesDays 7 = .ok (.bipush 99, 2) := by decide +kernel
theorem dX6_takesDays_9 : decode cX6_takesDays 9 = .ok (.invokevirtual 263, 3) := by decide +kernel
theorem dX6_takesDays_12 : decode cX6_takesDays 12 = .ok (.ifCond .ne 5, 3) := by decide +kernel
theorem dX6_takesDays_15 : decode cX6_takesDays 15 = .ok (.iconst 0, 1) := by decide +kernel
theorem dX6_takesDays_16 : decode cX6_takesDays 16 = .ok (.ireturn, 1) := by decide +kernel
theorem dX6_takesDays_17 : decode cX6_takesDays 17 = .ok (.aload_n 0, 1) := by decide +kernel
theorem dX6_takesDays_18 : decode cX6_takesDays 18 = .ok (.getfield 42, 3) := by decide +kernel
theorem dX6_takesDays_21 : decode cX6_takesDays 21 = .ok (.aload_n 0, 1) := by decide +kernel
theorem dX6_takesDays_22 : decode cX6_takesDays 22 = .ok (.getfield 45, 3) := by decide +kernel
theorem dX6_takesDays_25 : decode cX6_takesDays 25 = .ok (.iconst 0, 1) := by decide +kernel
theorem dX6_takesDays_26 : decode cX6_takesDays 26 = .ok (.iaload, 1) := by decide +kernel
theorem dX6_takesDays_27 : decode cX6_takesDays 27 = .ok (.invokestatic 107, 3) := by decide +kernel
theorem dX6_takesDays_30 : decode cX6_takesDays 30 = .ok (.iconst 1, 1) := by decide +kernel
theorem dX6_takesDays_31 : decode cX6_takesDays 31 = .ok (.ireturn, 1) := by decide +kernel
theorem dX6_spellsPromise_0 : decode cX6_spellsPromise 0 = .ok (.aload_n 0, 1) := by decide +kernel
theorem dX6_spellsPromise_1 : decode cX6_spellsPromise 1 = .ok (.getfield 244, 3) := by decide +kernel
theorem dX6_spellsPromise_4 : decode cX6_spellsPromise 4 = .ok (.iconst 1, 1) := by decide +kernel
theorem dX6_spellsPromise_5 : decode cX6_spellsPromise 5 = .ok (.if_icmp .ne 16, 3) := by decide +kernel
theorem dX6_spellsPromise_8 : decode cX6_spellsPromise 8 = .ok (.aload_n 0, 1) := by decide +kernel
theorem dX6_spellsPromise_9 : decode cX6_spellsPromise 9 = .ok (.getfield 241, 3) := by decide +kernel
theorem dX6_spellsPromise_12 : decode cX6_spellsPromise 12 = .ok (.bipush 7, 2) := by decide +kernel
theorem dX6_spellsPromise_14 : decode cX6_spellsPromise 14 = .ok (.if_icmp .ne 7, 3) := by decide +kernel
theorem dX6_spellsPromise_17 : decode cX6_spellsPromise 17 = .ok (.iconst 1, 1) := by decide +kernel
theorem dX6_spellsPromise_18 : decode cX6_spellsPromise 18 = .ok (.goto 4, 3) := by decide +kernel
theorem dX6_spellsPromise_21 : decode cX6_spellsPromise 21 = .ok (.iconst 0, 1) := by decide +kernel
theorem dX6_spellsPromise_22 : decode cX6_spellsPromise 22 = .ok (.istore_n 1, 1) := by decide +kernel
theorem dX6_spellsPromise_23 : decode cX6_spellsPromise 23 = .ok (.iload_n 1, 1) := by decide +kernel
theorem dX6_spellsPromise_24 : decode cX6_spellsPromise 24 = .ok (.ifCond .eq 118, 3) := by decide +kernel
theorem dX6_spellsPromise_27 : decode cX6_spellsPromise 27 = .ok (.aload_n 0, 1) := by decide +kernel
theorem dX6_spellsPromise_28 : decode cX6_spellsPromise 28 = .ok (.getfield 39, 3) := by decide +kernel
theorem dX6_spellsPromise_31 : decode cX6_spellsPromise 31 = .ok (.aload_n 0, 1) := by decide +kernel
theorem dX6_spellsPromise_32 : decode cX6_spellsPromise 32 = .ok (.getfield 238, 3) := by decide +kernel
theorem dX6_spellsPromise_35 : decode cX6_spellsPromise 35 = .ok (.iaload, 1) := by decide +kernel
theorem dX6_spellsPromise_36 : decode cX6_spellsPromise 36 = .ok (.bipush 112, 2) := by decide +kernel
theorem dX6_spellsPromise_38 : decode cX6_spellsPromise 38 = .ok (.if_icmp .ne 104, 3) := by decide +kernel
theorem dX6_spellsPromise_41 : decode cX6_spellsPromise 41 = .ok (.aload_n 0, 1) := by decide +kernel
theorem dX6_spellsPromise_42 : decode cX6_spellsPromise 42 = .ok (.getfield 39, 3) := by decide +kernel
theorem dX6_spellsPromise_45 : decode cX6_spellsPromise 45 = .ok (.aload_n 0, 1) := by decide +kernel
theorem dX6_spellsPromise_46 : decode cX6_spellsPromise 46 = .ok (.getfield 238, 3) := by decide +kernel
theorem dX6_spellsPromise_49 : decode cX6_spellsPromise 49 = .ok (.iconst 1, 1) := by decide +kernel
theorem dX6_spellsPromise_50 : decode cX6_spellsPromise 50 = .ok (.iadd, 1) := by decide +kernel
theorem dX6_spellsPromise_51 : decode cX6_spellsPromise 51 = .ok (.iaload, 1) := by decide +kernel
theorem dX6_spellsPromise_52 : decode cX6_spellsPromise 52 = .ok (.bipush 114, 2) := by decide +kernel
theorem dX6_spellsPromise_54 : decode cX6_spellsPromise 54 = .ok (.if_icmp .ne 88, 3) := by decide +kernel
theorem dX6_spellsPromise_57 : decode cX6_spellsPromise 57 = .ok (.aload_n 0, 1) := by decide +kernel
theorem dX6_spellsPromise_58 : decode cX6_spellsPromise 58 = .ok (.getfield 39, 3) := by decide +kernel
theorem dX6_spellsPromise_61 : decode cX6_spellsPromise 61 = .ok (.aload_n 0, 1) := by decide +kernel
theorem dX6_spellsPromise_62 : decode cX6_spellsPromise 62 = .ok (.getfield 238, 3) := by decide +kernel
theorem dX6_spellsPromise_65 : decode cX6_spellsPromise 65 = .ok (.iconst 2, 1) := by decide +kernel
theorem dX6_spellsPromise_66 : decode cX6_spellsPromise 66 = .ok (.iadd, 1) := by decide +kernel
theorem dX6_spellsPromise_67 : decode cX6_spellsPromise 67 = .ok (.iaload, 1) := by decide +kernel
theorem dX6_spellsPromise_68 : decode cX6_spellsPromise 68 = .ok (.bipush 111, 2) := by decide +kernel
theorem dX6_spellsPromise_70 : decode cX6_spellsPromise 70 = .ok (.if_icmp .ne 72, 3) := by decide +kernel
theorem dX6_spellsPromise_73 : decode cX6_spellsPromise 73 = .ok (.aload_n 0, 1) := by decide +kernel
theorem dX6_spellsPromise_74 : decode cX6_spellsPromise 74 = .ok (.getfield 39, 3) := by decide +kernel
theorem dX6_spellsPromise_77 : decode cX6_spellsPromise 77 = .ok (.aload_n 0, 1) := by decide +kernel
theorem dX6_spellsPromise_78 : decode cX6_spellsPromise 78 = .ok (.getfield 238, 3) := by decide +kernel
theorem dX6_spellsPromise_81 : decode cX6_spellsPromise 81 = .ok (.iconst 3, 1) := by decide +kernel
theorem dX6_spellsPromise_82 : decode cX6_spellsPromise 82 = .ok (.iadd, 1) := by decide +kernel
theorem dX6_spellsPromise_83 : decode cX6_spellsPromise 83 = .ok (.iaload, 1) := by decide +kernel
theorem dX6_spellsPromise_84 : decode cX6_spellsPromise 84 = .ok (.bipush 109, 2) := by decide +kernel
theorem dX6_spellsPromise_86 : decode cX6_spellsPromise 86 = .ok (.if_icmp .ne 56, 3) := by decide +kernel
theorem dX6_spellsPromise_89 : decode cX6_spellsPromise 89 = .ok (.aload_n 0, 1) := by decide +kernel
theorem dX6_spellsPromise_90 : decode cX6_spellsPromise 90 = .ok (.getfield 39, 3) := by decide +kernel
theorem dX6_spellsPromise_93 : decode cX6_spellsPromise 93 = .ok (.aload_n 0, 1) := by decide +kernel
theorem dX6_spellsPromise_94 : decode cX6_spellsPromise 94 = .ok (.getfield 238, 3) := by decide +kernel
theorem dX6_spellsPromise_97 : decode cX6_spellsPromise 97 = .ok (.iconst 4, 1) := by decide +kernel
theorem dX6_spellsPromise_98 : decode cX6_spellsPromise 98 = .ok (.iadd, 1) := by decide +kernel
theorem dX6_spellsPromise_99 : decode cX6_spellsPromise 99 = .ok (.iaload, 1) := by decide +kernel
theorem dX6_spellsPromise_100 : decode cX6_spellsPromise 100 = .ok (.bipush 105, 2) := by decide +kernel
theorem dX6_spellsPromise_102 : decode cX6_spellsPromise 102 = .ok (.if_icmp .ne 40, 3) := by decide +kernel
theorem dX6_spellsPromise_105 : decode cX6_spellsPromise 105 = .ok (.aload_n 0, 1) := by decide +kernel
theorem dX6_spellsPromise_106 : decode cX6_spellsPromise 106 = .ok (.getfield 39, 3) := by decide +kernel
theorem dX6_spellsPromise_109 : decode cX6_spellsPromise 109 = .ok (.aload_n 0, 1) := by decide +kernel
theorem dX6_spellsPromise_110 : decode cX6_spellsPromise 110 = .ok (.getfield 238, 3) := by decide +kernel
theorem dX6_spellsPromise_113 : decode cX6_spellsPromise 113 = .ok (.iconst 5, 1) := by decide +kernel
theorem dX6_spellsPromise_114 : decode cX6_spellsPromise 114 = .ok (.iadd, 1) := by decide +kernel
theorem dX6_spellsPromise_115 : decode cX6_spellsPromise 115 = .ok (.iaload, 1) := by decide +kernel
theorem dX6_spellsPromise_116 : decode cX6_spellsPromise 116 = .ok (.bipush 115, 2) := by decide +kernel
theorem dX6_spellsPromise_118 : decode cX6_spellsPromise 118 = .ok (.if_icmp .ne 24, 3) := by decide +kernel
theorem dX6_spellsPromise_121 : decode cX6_spellsPromise 121 = .ok (.aload_n 0, 1) := by decide +kernel
theorem dX6_spellsPromise_122 : decode cX6_spellsPromise 122 = .ok (.getfield 39, 3) := by decide +kernel
theorem dX6_spellsPromise_125 : decode cX6_spellsPromise 125 = .ok (.aload_n 0, 1) := by decide +kernel
theorem dX6_spellsPromise_126 : decode cX6_spellsPromise 126 = .ok (.getfield 238, 3) := by decide +kernel
theorem dX6_spellsPromise_129 : decode cX6_spellsPromise 129 = .ok (.bipush 6, 2) := by decide +kernel
theorem dX6_spellsPromise_131 : decode cX6_spellsPromise 131 = .ok (.iadd, 1) := by decide +kernel
theorem dX6_spellsPromise_132 : decode cX6_spellsPromise 132 = .ok (.iaload, 1) := by decide +kernel
theorem dX6_spellsPromise_133 : decode cX6_spellsPromise 133 = .ok (.bipush 101, 2) := by decide +kernel
theorem dX6_spellsPromise_135 : decode cX6_spellsPromise 135 = .ok (.if_icmp .ne 7, 3) := by decide +kernel
theorem dX6_spellsPromise_138 : decode cX6_spellsPromise 138 = .ok (.iconst 1, 1) := by decide +kernel
theorem dX6_spellsPromise_139 : decode cX6_spellsPromise 139 = .ok (.goto 4, 3) := by decide +kernel
theorem dX6_spellsPromise_142 : decode cX6_spellsPromise 142 = .ok (.iconst 0, 1) := by decide +kernel
theorem dX6_spellsPromise_143 : decode cX6_spellsPromise 143 = .ok (.ireturn, 1) := by decide +kernel
theorem dX6_takesItem_0 : decode cX6_takesItem 0 = .ok (.aload_n 0, 1) := by decide +kernel
theorem dX6_takesItem_1 : decode cX6_takesItem 1 = .ok (.invokevirtual 266, 3) := by decide +kernel
theorem dX6_takesItem_4 : decode cX6_takesItem 4 = .ok (.ifCond .eq 8, 3) := by decide +kernel
theorem dX6_takesItem_7 : decode cX6_takesItem 7 = .ok (.aload_n 0, 1) := by decide +kernel
theorem dX6_takesItem_8 : decode cX6_takesItem 8 = .ok (.invokevirtual 270, 3) := by decide +kernel
theorem dX6_takesItem_11 : decode cX6_takesItem 11 = .ok (.ireturn, 1) := by decide +kernel
theorem dX6_takesItem_12 : decode cX6_takesItem 12 = .ok (.aload_n 0, 1) := by decide +kernel
theorem dX6_takesItem_13 : decode cX6_takesItem 13 = .ok (.bipush 6, 2) := by decide +kernel
theorem dX6_takesItem_15 : decode cX6_takesItem 15 = .ok (.bipush 104, 2) := by decide +kernel
theorem dX6_takesItem_17 : decode cX6_takesItem 17 = .ok (.bipush 101, 2) := by decide +kernel
theorem dX6_takesItem_19 : decode cX6_takesItem 19 = .ok (.bipush 97, 2) := by decide +kernel
theorem dX6_takesItem_21 : decode cX6_takesItem 21 = .ok (.bipush 114, 2) := by decide +kernel
theorem dX6_takesItem_23 : decode cX6_takesItem 23 = .ok (.bipush 101, 2) := by decide +kernel
theorem dX6_takesItem_25 : decode cX6_takesItem 25 = .ok (.bipush 114, 2) := by decide +kernel
theorem dX6_takesItem_27 : decode cX6_takesItem 27 = .ok (.invokevirtual 273, 3) := by decide +kernel
theorem dX6_takesItem_30 : decode cX6_takesItem 30 = .ok (.ifCond .eq 8, 3) := by decide +kernel
theorem dX6_takesItem_33 : decode cX6_takesItem 33 = .ok (.aload_n 0, 1) := by decide +kernel
theorem dX6_takesItem_34 : decode cX6_takesItem 34 = .ok (.invokevirtual 277, 3) := by decide +kernel
theorem dX6_takesItem_37 : decode cX6_takesItem 37 = .ok (.ireturn, 1) := by decide +kernel
theorem dX6_takesItem_38 : decode cX6_takesItem 38 = .ok (.aload_n 0, 1) := by decide +kernel
theorem dX6_takesItem_39 : decode cX6_takesItem 39 = .ok (.iconst 5, 1) := by decide +kernel
theorem dX6_takesItem_40 : decode cX6_takesItem 40 = .ok (.bipush 98, 2) := by decide +kernel
theorem dX6_takesItem_42 : decode cX6_takesItem 42 = .ok (.bipush 117, 2) := by decide +kernel
theorem dX6_takesItem_44 : decode cX6_takesItem 44 = .ok (.bipush 121, 2) := by decide +kernel
theorem dX6_takesItem_46 : decode cX6_takesItem 46 = .ok (.bipush 101, 2) := by decide +kernel
theorem dX6_takesItem_48 : decode cX6_takesItem 48 = .ok (.bipush 114, 2) := by decide +kernel
theorem dX6_takesItem_50 : decode cX6_takesItem 50 = .ok (.iconst 0, 1) := by decide +kernel
theorem dX6_takesItem_51 : decode cX6_takesItem 51 = .ok (.invokevirtual 273, 3) := by decide +kernel
theorem dX6_takesItem_54 : decode cX6_takesItem 54 = .ok (.ifCond .eq 8, 3) := by decide +kernel
theorem dX6_takesItem_57 : decode cX6_takesItem 57 = .ok (.aload_n 0, 1) := by decide +kernel
theorem dX6_takesItem_58 : decode cX6_takesItem 58 = .ok (.invokevirtual 280, 3) := by decide +kernel
theorem dX6_takesItem_61 : decode cX6_takesItem 61 = .ok (.ireturn, 1) := by decide +kernel
theorem dX6_takesItem_62 : decode cX6_takesItem 62 = .ok (.aload_n 0, 1) := by decide +kernel
theorem dX6_takesItem_63 : decode cX6_takesItem 63 = .ok (.iconst 3, 1) := by decide +kernel
theorem dX6_takesItem_64 : decode cX6_takesItem 64 = .ok (.bipush 98, 2) := by decide +kernel
theorem dX6_takesItem_66 : decode cX6_takesItem 66 = .ok (.bipush 117, 2) := by decide +kernel
theorem dX6_takesItem_68 : decode cX6_takesItem 68 = .ok (.bipush 121, 2) := by decide +kernel
theorem dX6_takesItem_70 : decode cX6_takesItem 70 = .ok (.iconst 0, 1) := by decide +kernel
theorem dX6_takesItem_71 : decode cX6_takesItem 71 = .ok (.iconst 0, 1) := by decide +kernel
theorem dX6_takesItem_72 : decode cX6_takesItem 72 = .ok (.iconst 0, 1) := by decide +kernel
theorem dX6_takesItem_73 : decode cX6_takesItem 73 = .ok (.invokevirtual 273, 3) := by decide +kernel
theorem dX6_takesItem_76 : decode cX6_takesItem 76 = .ok (.ifCond .eq 8, 3) := by decide +kernel
theorem dX6_takesItem_79 : decode cX6_takesItem 79 = .ok (.aload_n 0, 1) := by decide +kernel
theorem dX6_takesItem_80 : decode cX6_takesItem 80 = .ok (.invokevirtual 283, 3) := by decide +kernel
theorem dX6_takesItem_83 : decode cX6_takesItem 83 = .ok (.ireturn, 1) := by decide +kernel
theorem dX6_takesItem_84 : decode cX6_takesItem 84 = .ok (.aload_n 0, 1) := by decide +kernel
theorem dX6_takesItem_85 : decode cX6_takesItem 85 = .ok (.iconst 4, 1) := by decide +kernel
theorem dX6_takesItem_86 : decode cX6_takesItem 86 = .ok (.bipush 107, 2) := by decide +kernel
theorem dX6_takesItem_88 : decode cX6_takesItem 88 = .ok (.bipush 101, 2) := by decide +kernel
theorem dX6_takesItem_90 : decode cX6_takesItem 90 = .ok (.bipush 101, 2) := by decide +kernel
theorem dX6_takesItem_92 : decode cX6_takesItem 92 = .ok (.bipush 112, 2) := by decide +kernel
theorem dX6_takesItem_94 : decode cX6_takesItem 94 = .ok (.iconst 0, 1) := by decide +kernel
theorem dX6_takesItem_95 : decode cX6_takesItem 95 = .ok (.iconst 0, 1) := by decide +kernel
theorem dX6_takesItem_96 : decode cX6_takesItem 96 = .ok (.invokevirtual 273, 3) := by decide +kernel
theorem dX6_takesItem_99 : decode cX6_takesItem 99 = .ok (.ifCond .eq 8, 3) := by decide +kernel
theorem dX6_takesItem_102 : decode cX6_takesItem 102 = .ok (.aload_n 0, 1) := by decide +kernel
theorem dX6_takesItem_103 : decode cX6_takesItem 103 = .ok (.invokevirtual 286, 3) := by decide +kernel
theorem dX6_takesItem_106 : decode cX6_takesItem 106 = .ok (.ireturn, 1) := by decide +kernel
theorem dX6_takesItem_107 : decode cX6_takesItem 107 = .ok (.aload_n 0, 1) := by decide +kernel
theorem dX6_takesItem_108 : decode cX6_takesItem 108 = .ok (.iconst 4, 1) := by decide +kernel
theorem dX6_takesItem_109 : decode cX6_takesItem 109 = .ok (.bipush 100, 2) := by decide +kernel
theorem dX6_takesItem_111 : decode cX6_takesItem 111 = .ok (.bipush 97, 2) := by decide +kernel
theorem dX6_takesItem_113 : decode cX6_takesItem 113 = .ok (.bipush 121, 2) := by decide +kernel
theorem dX6_takesItem_115 : decode cX6_takesItem 115 = .ok (.bipush 115, 2) := by decide +kernel
theorem dX6_takesItem_117 : decode cX6_takesItem 117 = .ok (.iconst 0, 1) := by decide +kernel
theorem dX6_takesItem_118 : decode cX6_takesItem 118 = .ok (.iconst 0, 1) := by decide +kernel
theorem dX6_takesItem_119 : decode cX6_takesItem 119 = .ok (.invokevirtual 273, 3) := by decide +kernel
theorem dX6_takesItem_122 : decode cX6_takesItem 122 = .ok (.ifCond .eq 14, 3) := by decide +kernel
theorem dX6_takesItem_125 : decode cX6_takesItem 125 = .ok (.aload_n 0, 1) := by decide +kernel
theorem dX6_takesItem_126 : decode cX6_takesItem 126 = .ok (.invokevirtual 289, 3) := by decide +kernel
theorem dX6_takesItem_129 : decode cX6_takesItem 129 = .ok (.ifCond .eq 7, 3) := by decide +kernel
theorem dX6_takesItem_132 : decode cX6_takesItem 132 = .ok (.iconst 1, 1) := by decide +kernel
theorem dX6_takesItem_133 : decode cX6_takesItem 133 = .ok (.goto 4, 3) := by decide +kernel
theorem dX6_takesItem_136 : decode cX6_takesItem 136 = .ok (.iconst 0, 1) := by decide +kernel
theorem dX6_takesItem_137 : decode cX6_takesItem 137 = .ok (.ireturn, 1) := by decide +kernel
theorem dX6_read_0 : decode cX6_read 0 = .ok (.aload_n 0, 1) := by decide +kernel
theorem dX6_read_1 : decode cX6_read 1 = .ok (.iconst 0, 1) := by decide +kernel
theorem dX6_read_2 : decode cX6_read 2 = .ok (.invokevirtual 256, 3) := by decide +kernel
theorem dX6_read_5 : decode cX6_read 5 = .ok (.aload_n 0, 1) := by decide +kernel
theorem dX6_read_6 : decode cX6_read 6 = .ok (.iconst 4, 1) := by decide +kernel
theorem dX6_read_7 : decode cX6_read 7 = .ok (.bipush 116, 2) := by decide +kernel
theorem dX6_read_9 : decode cX6_read 9 = .ok (.bipush 111, 2) := by decide +kernel
theorem dX6_read_11 : decode cX6_read 11 = .ok (.bipush 119, 2) := by decide +kernel
theorem dX6_read_13 : decode cX6_read 13 = .ok (.bipush 110, 2) := by decide +kernel
theorem dX6_read_15 : decode cX6_read 15 = .ok (.iconst 0, 1) := by decide +kernel
theorem dX6_read_16 : decode cX6_read 16 = .ok (.iconst 0, 1) := by decide +kernel
theorem dX6_read_17 : decode cX6_read 17 = .ok (.invokevirtual 273, 3) := by decide +kernel
theorem dX6_read_20 : decode cX6_read 20 = .ok (.ifCond .ne 11, 3) := by decide +kernel
theorem dX6_read_23 : decode cX6_read 23 = .ok (.bipush (-10), 2) := by decide +kernel
theorem dX6_read_25 : decode cX6_read 25 = .ok (.aload_n 0, 1) := by decide +kernel
theorem dX6_read_26 : decode cX6_read 26 = .ok (.getfield 238, 3) := by decide +kernel
theorem dX6_read_29 : decode cX6_read 29 = .ok (.isub, 1) := by decide +kernel
theorem dX6_read_30 : decode cX6_read 30 = .ok (.ireturn, 1) := by decide +kernel
theorem dX6_read_31 : decode cX6_read 31 = .ok (.aload_n 0, 1) := by decide +kernel
theorem dX6_read_32 : decode cX6_read 32 = .ok (.invokevirtual 260, 3) := by decide +kernel
theorem dX6_read_35 : decode cX6_read 35 = .ok (.aload_n 0, 1) := by decide +kernel
theorem dX6_read_36 : decode cX6_read 36 = .ok (.getfield 244, 3) := by decide +kernel
theorem dX6_read_39 : decode cX6_read 39 = .ok (.iconst 3, 1) := by decide +kernel
theorem dX6_read_40 : decode cX6_read 40 = .ok (.if_icmp .eq 11, 3) := by decide +kernel
theorem dX6_read_43 : decode cX6_read 43 = .ok (.bipush (-10), 2) := by decide +kernel
theorem dX6_read_45 : decode cX6_read 45 = .ok (.aload_n 0, 1) := by decide +kernel
theorem dX6_read_46 : decode cX6_read 46 = .ok (.getfield 238, 3) := by decide +kernel
theorem dX6_read_49 : decode cX6_read 49 = .ok (.isub, 1) := by decide +kernel
theorem dX6_read_50 : decode cX6_read 50 = .ok (.ireturn, 1) := by decide +kernel
theorem dX6_read_51 : decode cX6_read 51 = .ok (.aload_n 0, 1) := by decide +kernel
theorem dX6_read_52 : decode cX6_read 52 = .ok (.invokevirtual 260, 3) := by decide +kernel
theorem dX6_read_55 : decode cX6_read 55 = .ok (.aload_n 0, 1) := by decide +kernel
theorem dX6_read_56 : decode cX6_read 56 = .ok (.getfield 42, 3) := by decide +kernel
theorem dX6_read_59 : decode cX6_read 59 = .ok (.invokestatic 48, 3) := by decide +kernel
theorem dX6_read_62 : decode cX6_read 62 = .ok (.iconst 1, 1) := by decide +kernel
theorem dX6_read_63 : decode cX6_read 63 = .ok (.istore_n 1, 1) := by decide +kernel
theorem dX6_read_64 : decode cX6_read 64 = .ok (.aload_n 0, 1) := by decide +kernel
theorem dX6_read_65 : decode cX6_read 65 = .ok (.getfield 244, 3) := by decide +kernel
theorem dX6_read_68 : decode cX6_read 68 = .ok (.ifCond .eq 36, 3) := by decide +kernel
theorem dX6_read_71 : decode cX6_read 71 = .ok (.aload_n 0, 1) := by decide +kernel
theorem dX6_read_72 : decode cX6_read 72 = .ok (.invokevirtual 292, 3) := by decide +kernel
theorem dX6_read_75 : decode cX6_read 75 = .ok (.ifCond .eq 11, 3) := by decide +kernel
theorem dX6_read_78 : decode cX6_read 78 = .ok (.aload_n 0, 1) := by decide +kernel
theorem dX6_read_79 : decode cX6_read 79 = .ok (.getfield 244, 3) := by decide +kernel
theorem dX6_read_82 : decode cX6_read 82 = .ok (.iconst 3, 1) := by decide +kernel
theorem dX6_read_83 : decode cX6_read 83 = .ok (.if_icmp .eq 11, 3) := by decide +kernel
theorem dX6_read_86 : decode cX6_read 86 = .ok (.bipush (-10), 2) := by decide +kernel
theorem dX6_read_88 : decode cX6_read 88 = .ok (.aload_n 0, 1) := by decide +kernel
theorem dX6_read_89 : decode cX6_read 89 = .ok (.getfield 238, 3) := by decide +kernel
theorem dX6_read_92 : decode cX6_read 92 = .ok (.isub, 1) := by decide +kernel
theorem dX6_read_93 : decode cX6_read 93 = .ok (.ireturn, 1) := by decide +kernel
theorem dX6_read_94 : decode cX6_read 94 = .ok (.aload_n 0, 1) := by decide +kernel
theorem dX6_read_95 : decode cX6_read 95 = .ok (.invokevirtual 260, 3) := by decide +kernel
theorem dX6_read_98 : decode cX6_read 98 = .ok (.iinc 1 1, 3) := by decide +kernel
theorem dX6_read_101 : decode cX6_read 101 = .ok (.goto (-37), 3) := by decide +kernel
theorem dX6_read_104 : decode cX6_read 104 = .ok (.iconst 0, 1) := by decide +kernel
theorem dX6_read_105 : decode cX6_read 105 = .ok (.istore_n 2, 1) := by decide +kernel
theorem dX6_read_106 : decode cX6_read 106 = .ok (.iload_n 2, 1) := by decide +kernel
theorem dX6_read_107 : decode cX6_read 107 = .ok (.bipush 106, 2) := by decide +kernel
theorem dX6_read_109 : decode cX6_read 109 = .ok (.if_icmp .ge 21, 3) := by decide +kernel
theorem dX6_read_112 : decode cX6_read 112 = .ok (.aload_n 0, 1) := by decide +kernel
theorem dX6_read_113 : decode cX6_read 113 = .ok (.getfield 7, 3) := by decide +kernel
theorem dX6_read_116 : decode cX6_read 116 = .ok (.iload_n 2, 1) := by decide +kernel
theorem dX6_read_117 : decode cX6_read 117 = .ok (.aload_n 0, 1) := by decide +kernel
theorem dX6_read_118 : decode cX6_read 118 = .ok (.getfield 42, 3) := by decide +kernel
theorem dX6_read_121 : decode cX6_read 121 = .ok (.iload_n 2, 1) := by decide +kernel
theorem dX6_read_122 : decode cX6_read 122 = .ok (.iaload, 1) := by decide +kernel
theorem dX6_read_123 : decode cX6_read 123 = .ok (.iastore, 1) := by decide +kernel
theorem dX6_read_124 : decode cX6_read 124 = .ok (.iinc 2 1, 3) := by decide +kernel
theorem dX6_read_127 : decode cX6_read 127 = .ok (.goto (-21), 3) := by decide +kernel
theorem dX6_read_130 : decode cX6_read 130 = .ok (.iload_n 1, 1) := by decide +kernel
theorem dX6_read_131 : decode cX6_read 131 = .ok (.ireturn, 1) := by decide +kernel
theorem dX6_part_0 : decode cX6_part 0 = .ok (.iload_n 1, 1) := by decide +kernel
theorem dX6_part_1 : decode cX6_part 1 = .ok (.ifCond .ne 10, 3) := by decide +kernel
theorem dX6_part_4 : decode cX6_part 4 = .ok (.aload_n 0, 1) := by decide +kernel
theorem dX6_part_5 : decode cX6_part 5 = .ok (.getfield 199, 3) := by decide +kernel
theorem dX6_part_8 : decode cX6_part 8 = .ok (.goto 22, 3) := by decide +kernel
theorem dX6_part_11 : decode cX6_part 11 = .ok (.iload_n 1, 1) := by decide +kernel
theorem dX6_part_12 : decode cX6_part 12 = .ok (.iconst 1, 1) := by decide +kernel
theorem dX6_part_13 : decode cX6_part 13 = .ok (.if_icmp .ne 10, 3) := by decide +kernel
theorem dX6_part_16 : decode cX6_part 16 = .ok (.aload_n 0, 1) := by decide +kernel
theorem dX6_part_17 : decode cX6_part 17 = .ok (.getfield 23, 3) := by decide +kernel
theorem dX6_part_20 : decode cX6_part 20 = .ok (.goto 10, 3) := by decide +kernel
theorem dX6_part_23 : decode cX6_part 23 = .ok (.aload_n 0, 1) := by decide +kernel
theorem dX6_part_24 : decode cX6_part 24 = .ok (.bipush (-2), 2) := by decide +kernel
theorem dX6_part_26 : decode cX6_part 26 = .ok (.invokevirtual 71, 3) := by decide +kernel
theorem dX6_part_29 : decode cX6_part 29 = .ok (.i2l, 1) := by decide +kernel
theorem dX6_part_30 : decode cX6_part 30 = .ok (.lreturn, 1) := by decide +kernel
theorem dX6_image_0 : decode cX6_image 0 = .ok (.iload_n 1, 1) := by decide +kernel
theorem dX6_image_1 : decode cX6_image 1 = .ok (.i2l, 1) := by decide +kernel
theorem dX6_image_2 : decode cX6_image 2 = .ok (.lconst 0, 1) := by decide +kernel
theorem dX6_image_3 : decode cX6_image 3 = .ok (.lconst 1, 1) := by decide +kernel
theorem dX6_image_4 : decode cX6_image 4 = .ok (.invokestatic 56, 3) := by decide +kernel
theorem dX6_image_7 : decode cX6_image 7 = .ok (.ifCond .ne 10, 3) := by decide +kernel
theorem dX6_image_10 : decode cX6_image 10 = .ok (.aload_n 0, 1) := by decide +kernel
theorem dX6_image_11 : decode cX6_image 11 = .ok (.bipush (-2), 2) := by decide +kernel
theorem dX6_image_13 : decode cX6_image 13 = .ok (.invokevirtual 71, 3) := by decide +kernel
theorem dX6_image_16 : decode cX6_image 16 = .ok (.ireturn, 1) := by decide +kernel
theorem dX6_image_17 : decode cX6_image 17 = .ok (.iconst 0, 1) := by decide +kernel
theorem dX6_image_18 : decode cX6_image 18 = .ok (.istore_n 2, 1) := by decide +kernel
theorem dX6_image_19 : decode cX6_image 19 = .ok (.iload_n 2, 1) := by decide +kernel
theorem dX6_image_20 : decode cX6_image 20 = .ok (.sipush 258, 3) := by decide +kernel
theorem dX6_image_23 : decode cX6_image 23 = .ok (.if_icmp .ge 27, 3) := by decide +kernel
theorem dX6_image_26 : decode cX6_image 26 = .ok (.aload_n 0, 1) := by decide +kernel
theorem dX6_image_27 : decode cX6_image 27 = .ok (.getfield 13, 3) := by decide +kernel
theorem dX6_image_30 : decode cX6_image 30 = .ok (.sipush 258, 3) := by decide +kernel
theorem dX6_image_33 : decode cX6_image 33 = .ok (.iload_n 1, 1) := by decide +kernel
theorem dX6_image_34 : decode cX6_image 34 = .ok (.imul, 1) := by decide +kernel
theorem dX6_image_35 : decode cX6_image 35 = .ok (.iload_n 2, 1) := by decide +kernel
theorem dX6_image_36 : decode cX6_image 36 = .ok (.iadd, 1) := by decide +kernel
theorem dX6_image_37 : decode cX6_image 37 = .ok (.aload_n 0, 1) := by decide +kernel
theorem dX6_image_38 : decode cX6_image 38 = .ok (.getfield 7, 3) := by decide +kernel
theorem dX6_image_41 : decode cX6_image 41 = .ok (.iload_n 2, 1) := by decide +kernel
theorem dX6_image_42 : decode cX6_image 42 = .ok (.iaload, 1) := by decide +kernel
theorem dX6_image_43 : decode cX6_image 43 = .ok (.iastore, 1) := by decide +kernel
theorem dX6_image_44 : decode cX6_image 44 = .ok (.iinc 2 1, 3) := by decide +kernel
theorem dX6_image_47 : decode cX6_image 47 = .ok (.goto (-28), 3) := by decide +kernel
theorem dX6_image_50 : decode cX6_image 50 = .ok (.aload_n 0, 1) := by decide +kernel
theorem dX6_image_51 : decode cX6_image 51 = .ok (.getfield 16, 3) := by decide +kernel
theorem dX6_image_54 : decode cX6_image 54 = .ok (.iload_n 1, 1) := by decide +kernel
theorem dX6_image_55 : decode cX6_image 55 = .ok (.iconst 1, 1) := by decide +kernel
theorem dX6_image_56 : decode cX6_image 56 = .ok (.bastore, 1) := by decide +kernel
theorem dX6_image_57 : decode cX6_image 57 = .ok (.iconst 1, 1) := by decide +kernel
theorem dX6_image_58 : decode cX6_image 58 = .ok (.ireturn, 1) := by decide +kernel
theorem dX6_from_0 : decode cX6_from 0 = .ok (.iload_n 1, 1) := by decide +kernel
theorem dX6_from_1 : decode cX6_from 1 = .ok (.i2l, 1) := by decide +kernel
theorem dX6_from_2 : decode cX6_from 2 = .ok (.lconst 0, 1) := by decide +kernel
theorem dX6_from_3 : decode cX6_from 3 = .ok (.lconst 1, 1) := by decide +kernel
theorem dX6_from_4 : decode cX6_from 4 = .ok (.invokestatic 56, 3) := by decide +kernel
theorem dX6_from_7 : decode cX6_from 7 = .ok (.ifCond .ne 10, 3) := by decide +kernel
theorem dX6_from_10 : decode cX6_from 10 = .ok (.aload_n 0, 1) := by decide +kernel
theorem dX6_from_11 : decode cX6_from 11 = .ok (.bipush (-2), 2) := by decide +kernel
theorem dX6_from_13 : decode cX6_from 13 = .ok (.invokevirtual 71, 3) := by decide +kernel
theorem dX6_from_16 : decode cX6_from 16 = .ok (.ireturn, 1) := by decide +kernel
theorem dX6_from_17 : decode cX6_from 17 = .ok (.aload_n 0, 1) := by decide +kernel
theorem dX6_from_18 : decode cX6_from 18 = .ok (.getfield 16, 3) := by decide +kernel
theorem dX6_from_21 : decode cX6_from 21 = .ok (.iload_n 1, 1) := by decide +kernel
theorem dX6_from_22 : decode cX6_from 22 = .ok (.baload, 1) := by decide +kernel
theorem dX6_from_23 : decode cX6_from 23 = .ok (.ifCond .ne 8, 3) := by decide +kernel
theorem dX6_from_26 : decode cX6_from 26 = .ok (.aload_n 0, 1) := by decide +kernel
theorem dX6_from_27 : decode cX6_from 27 = .ok (.invokevirtual 128, 3) := by decide +kernel
theorem dX6_from_30 : decode cX6_from 30 = .ok (.ireturn, 1) := by decide +kernel
theorem dX6_from_31 : decode cX6_from 31 = .ok (.iconst 0, 1) := by decide +kernel
theorem dX6_from_32 : decode cX6_from 32 = .ok (.istore_n 2, 1) := by decide +kernel
theorem dX6_from_33 : decode cX6_from 33 = .ok (.iload_n 2, 1) := by decide +kernel
theorem dX6_from_34 : decode cX6_from 34 = .ok (.sipush 258, 3) := by decide +kernel
theorem dX6_from_37 : decode cX6_from 37 = .ok (.if_icmp .ge 27, 3) := by decide +kernel
theorem dX6_from_40 : decode cX6_from 40 = .ok (.aload_n 0, 1) := by decide +kernel
theorem dX6_from_41 : decode cX6_from 41 = .ok (.getfield 7, 3) := by decide +kernel
theorem dX6_from_44 : decode cX6_from 44 = .ok (.iload_n 2, 1) := by decide +kernel
theorem dX6_from_45 : decode cX6_from 45 = .ok (.aload_n 0, 1) := by decide +kernel
theorem dX6_from_46 : decode cX6_from 46 = .ok (.getfield 13, 3) := by decide +kernel
theorem dX6_from_49 : decode cX6_from 49 = .ok (.sipush 258, 3) := by decide +kernel
theorem dX6_from_52 : decode cX6_from 52 = .ok (.iload_n 1, 1) := by decide +kernel
theorem dX6_from_53 : decode cX6_from 53 = .ok (.imul, 1) := by decide +kernel
theorem dX6_from_54 : decode cX6_from 54 = .ok (.iload_n 2, 1) := by decide +kernel
theorem dX6_from_55 : decode cX6_from 55 = .ok (.iadd, 1) := by decide +kernel
theorem dX6_from_56 : decode cX6_from 56 = .ok (.iaload, 1) := by decide +kernel
theorem dX6_from_57 : decode cX6_from 57 = .ok (.iastore, 1) := by decide +kernel
theorem dX6_from_58 : decode cX6_from 58 = .ok (.iinc 2 1, 3) := by decide +kernel
theorem dX6_from_61 : decode cX6_from 61 = .ok (.goto (-28), 3) := by decide +kernel
theorem dX6_from_64 : decode cX6_from 64 = .ok (.iconst 1, 1) := by decide +kernel
theorem dX6_from_65 : decode cX6_from 65 = .ok (.ireturn, 1) := by decide +kernel
theorem dX6_status_0 : decode cX6_status 0 = .ok (.iload_n 1, 1) := by decide +kernel
theorem dX6_status_1 : decode cX6_status 1 = .ok (.i2l, 1) := by decide +kernel
theorem dX6_status_2 : decode cX6_status 2 = .ok (.lconst 0, 1) := by decide +kernel
theorem dX6_status_3 : decode cX6_status 3 = .ok (.ldc2_w 147, 3) := by decide +kernel
theorem dX6_status_6 : decode cX6_status 6 = .ok (.invokestatic 56, 3) := by decide +kernel
theorem dX6_status_9 : decode cX6_status 9 = .ok (.ifCond .eq 12, 3) := by decide +kernel
theorem dX6_status_12 : decode cX6_status 12 = .ok (.aload_n 0, 1) := by decide +kernel
theorem dX6_status_13 : decode cX6_status 13 = .ok (.getfield 20, 3) := by decide +kernel
theorem dX6_status_16 : decode cX6_status 16 = .ok (.iload_n 1, 1) := by decide +kernel
theorem dX6_status_17 : decode cX6_status 17 = .ok (.iaload, 1) := by decide +kernel
theorem dX6_status_18 : decode cX6_status 18 = .ok (.goto 8, 3) := by decide +kernel
theorem dX6_status_21 : decode cX6_status 21 = .ok (.aload_n 0, 1) := by decide +kernel
theorem dX6_status_22 : decode cX6_status 22 = .ok (.iconst (-1), 1) := by decide +kernel
theorem dX6_status_23 : decode cX6_status 23 = .ok (.invokevirtual 71, 3) := by decide +kernel
theorem dX6_status_26 : decode cX6_status 26 = .ok (.ireturn, 1) := by decide +kernel
theorem dX6_counted_0 : decode cX6_counted 0 = .ok (.iconst 0, 1) := by decide +kernel
theorem dX6_counted_1 : decode cX6_counted 1 = .ok (.istore_n 2, 1) := by decide +kernel
theorem dX6_counted_2 : decode cX6_counted 2 = .ok (.iconst 0, 1) := by decide +kernel
theorem dX6_counted_3 : decode cX6_counted 3 = .ok (.istore_n 3, 1) := by decide +kernel
theorem dX6_counted_4 : decode cX6_counted 4 = .ok (.iconst 0, 1) := by decide +kernel
theorem dX6_counted_5 : decode cX6_counted 5 = .ok (.istore 4, 2) := by decide +kernel
theorem dX6_counted_7 : decode cX6_counted 7 = .ok (.iload 4, 2) := by decide +kernel
theorem dX6_counted_9 : decode cX6_counted 9 = .ok (.aload_n 0, 1) := by decide +kernel
theorem dX6_counted_10 : decode cX6_counted 10 = .ok (.invokevirtual 52, 3) := by decide +kernel
theorem dX6_counted_13 : decode cX6_counted 13 = .ok (.if_icmp .ge 52, 3) := by decide +kernel
theorem dX6_counted_16 : decode cX6_counted 16 = .ok (.iload_n 2, 1) := by decide +kernel
theorem dX6_counted_17 : decode cX6_counted 17 = .ok (.aload_n 0, 1) := by decide +kernel
theorem dX6_counted_18 : decode cX6_counted 18 = .ok (.getfield 7, 3) := by decide +kernel
theorem dX6_counted_21 : decode cX6_counted 21 = .ok (.iload 4, 2) := by decide +kernel
theorem dX6_counted_23 : decode cX6_counted 23 = .ok (.invokestatic 95, 3) := by decide +kernel
theorem dX6_counted_26 : decode cX6_counted 26 = .ok (.ifCond .eq 7, 3) := by decide +kernel
theorem dX6_counted_29 : decode cX6_counted 29 = .ok (.iconst 1, 1) := by decide +kernel
theorem dX6_counted_30 : decode cX6_counted 30 = .ok (.goto 4, 3) := by decide +kernel
theorem dX6_counted_33 : decode cX6_counted 33 = .ok (.iconst 0, 1) := by decide +kernel
theorem dX6_counted_34 : decode cX6_counted 34 = .ok (.iadd, 1) := by decide +kernel
theorem dX6_counted_35 : decode cX6_counted 35 = .ok (.istore_n 2, 1) := by decide +kernel
theorem dX6_counted_36 : decode cX6_counted 36 = .ok (.iload_n 3, 1) := by decide +kernel
theorem dX6_counted_37 : decode cX6_counted 37 = .ok (.aload_n 0, 1) := by decide +kernel
theorem dX6_counted_38 : decode cX6_counted 38 = .ok (.getfield 7, 3) := by decide +kernel
theorem dX6_counted_41 : decode cX6_counted 41 = .ok (.bipush 7, 2) := by decide +kernel
theorem dX6_counted_43 : decode cX6_counted 43 = .ok (.iload 4, 2) := by decide +kernel
theorem dX6_counted_45 : decode cX6_counted 45 = .ok (.iadd, 1) := by decide +kernel
theorem dX6_counted_46 : decode cX6_counted 46 = .ok (.iaload, 1) := by decide +kernel
theorem dX6_counted_47 : decode cX6_counted 47 = .ok (.bipush 10, 2) := by decide +kernel
theorem dX6_counted_49 : decode cX6_counted 49 = .ok (.if_icmp .lt 7, 3) := by decide +kernel
theorem dX6_counted_52 : decode cX6_counted 52 = .ok (.iconst 1, 1) := by decide +kernel
theorem dX6_counted_53 : decode cX6_counted 53 = .ok (.goto 4, 3) := by decide +kernel
theorem dX6_counted_56 : decode cX6_counted 56 = .ok (.iconst 0, 1) := by decide +kernel
theorem dX6_counted_57 : decode cX6_counted 57 = .ok (.iadd, 1) := by decide +kernel
theorem dX6_counted_58 : decode cX6_counted 58 = .ok (.istore_n 3, 1) := by decide +kernel
theorem dX6_counted_59 : decode cX6_counted 59 = .ok (.iinc 4 1, 3) := by decide +kernel
theorem dX6_counted_62 : decode cX6_counted 62 = .ok (.goto (-55), 3) := by decide +kernel
theorem dX6_counted_65 : decode cX6_counted 65 = .ok (.iload_n 1, 1) := by decide +kernel
theorem dX6_counted_66 : decode cX6_counted 66 = .ok (.tableswitch 75 3 11 #[50, 58, 60, 62, 75, 75, 75, 75, 70], 50) := by decide +kernel
theorem dX6_counted_116 : decode cX6_counted 116 = .ok (.aload_n 0, 1) := by decide +kernel
theorem dX6_counted_117 : decode cX6_counted 117 = .ok (.getfield 7, 3) := by decide +kernel
theorem dX6_counted_120 : decode cX6_counted 120 = .ok (.bipush 25, 2) := by decide +kernel
theorem dX6_counted_122 : decode cX6_counted 122 = .ok (.iaload, 1) := by decide +kernel
theorem dX6_counted_123 : decode cX6_counted 123 = .ok (.ireturn, 1) := by decide +kernel
theorem dX6_counted_124 : decode cX6_counted 124 = .ok (.iload_n 2, 1) := by decide +kernel
theorem dX6_counted_125 : decode cX6_counted 125 = .ok (.ireturn, 1) := by decide +kernel
theorem dX6_counted_126 : decode cX6_counted 126 = .ok (.iload_n 3, 1) := by decide +kernel
theorem dX6_counted_127 : decode cX6_counted 127 = .ok (.ireturn, 1) := by decide +kernel
theorem dX6_counted_128 : decode cX6_counted 128 = .ok (.aload_n 0, 1) := by decide +kernel
theorem dX6_counted_129 : decode cX6_counted 129 = .ok (.getfield 7, 3) := by decide +kernel
theorem dX6_counted_132 : decode cX6_counted 132 = .ok (.bipush 24, 2) := by decide +kernel
theorem dX6_counted_134 : decode cX6_counted 134 = .ok (.iaload, 1) := by decide +kernel
theorem dX6_counted_135 : decode cX6_counted 135 = .ok (.ireturn, 1) := by decide +kernel
theorem dX6_counted_136 : decode cX6_counted 136 = .ok (.aload_n 0, 1) := by decide +kernel
theorem dX6_counted_137 : decode cX6_counted 137 = .ok (.getfield 226, 3) := by decide +kernel
theorem dX6_counted_140 : decode cX6_counted 140 = .ok (.ireturn, 1) := by decide +kernel
theorem dX6_counted_141 : decode cX6_counted 141 = .ok (.iload_n 1, 1) := by decide +kernel
theorem dX6_counted_142 : decode cX6_counted 142 = .ok (.iconst 3, 1) := by decide +kernel
theorem dX6_counted_143 : decode cX6_counted 143 = .ok (.if_icmp .ge 12, 3) := by decide +kernel
theorem dX6_counted_146 : decode cX6_counted 146 = .ok (.aload_n 0, 1) := by decide +kernel
theorem dX6_counted_147 : decode cX6_counted 147 = .ok (.getfield 7, 3) := by decide +kernel
theorem dX6_counted_150 : decode cX6_counted 150 = .ok (.iload_n 1, 1) := by decide +kernel
theorem dX6_counted_151 : decode cX6_counted 151 = .ok (.iaload, 1) := by decide +kernel
theorem dX6_counted_152 : decode cX6_counted 152 = .ok (.goto 14, 3) := by decide +kernel
theorem dX6_counted_155 : decode cX6_counted 155 = .ok (.aload_n 0, 1) := by decide +kernel
theorem dX6_counted_156 : decode cX6_counted 156 = .ok (.getfield 7, 3) := by decide +kernel
theorem dX6_counted_159 : decode cX6_counted 159 = .ok (.iconst 3, 1) := by decide +kernel
theorem dX6_counted_160 : decode cX6_counted 160 = .ok (.iload_n 1, 1) := by decide +kernel
theorem dX6_counted_161 : decode cX6_counted 161 = .ok (.iadd, 1) := by decide +kernel
theorem dX6_counted_162 : decode cX6_counted 162 = .ok (.bipush 7, 2) := by decide +kernel
theorem dX6_counted_164 : decode cX6_counted 164 = .ok (.isub, 1) := by decide +kernel
theorem dX6_counted_165 : decode cX6_counted 165 = .ok (.iaload, 1) := by decide +kernel
theorem dX6_counted_166 : decode cX6_counted 166 = .ok (.ireturn, 1) := by decide +kernel
theorem dX6_count_0 : decode cX6_count 0 = .ok (.iload_n 1, 1) := by decide +kernel
theorem dX6_count_1 : decode cX6_count 1 = .ok (.i2l, 1) := by decide +kernel
theorem dX6_count_2 : decode cX6_count 2 = .ok (.lconst 0, 1) := by decide +kernel
theorem dX6_count_3 : decode cX6_count 3 = .ok (.ldc2_w 295, 3) := by decide +kernel
theorem dX6_count_6 : decode cX6_count 6 = .ok (.invokestatic 56, 3) := by decide +kernel
theorem dX6_count_9 : decode cX6_count 9 = .ok (.ifCond .eq 11, 3) := by decide +kernel
theorem dX6_count_12 : decode cX6_count 12 = .ok (.aload_n 0, 1) := by decide +kernel
theorem dX6_count_13 : decode cX6_count 13 = .ok (.iload_n 1, 1) := by decide +kernel
theorem dX6_count_14 : decode cX6_count 14 = .ok (.invokevirtual 297, 3) := by decide +kernel
theorem dX6_count_17 : decode cX6_count 17 = .ok (.goto 9, 3) := by decide +kernel
theorem dX6_count_20 : decode cX6_count 20 = .ok (.aload_n 0, 1) := by decide +kernel
theorem dX6_count_21 : decode cX6_count 21 = .ok (.bipush (-2), 2) := by decide +kernel
theorem dX6_count_23 : decode cX6_count 23 = .ok (.invokevirtual 71, 3) := by decide +kernel
theorem dX6_count_26 : decode cX6_count 26 = .ok (.ireturn, 1) := by decide +kernel
theorem dX6_sums_0 : decode cX6_sums 0 = .ok (.lload_n 1, 1) := by decide +kernel
theorem dX6_sums_1 : decode cX6_sums 1 = .ok (.lstore 5, 2) := by decide +kernel
theorem dX6_sums_3 : decode cX6_sums 3 = .ok (.iconst 0, 1) := by decide +kernel
theorem dX6_sums_4 : decode cX6_sums 4 = .ok (.istore 7, 2) := by decide +kernel
theorem dX6_sums_6 : decode cX6_sums 6 = .ok (.iload 7, 2) := by decide +kernel
theorem dX6_sums_8 : decode cX6_sums 8 = .ok (.iload 4, 2) := by decide +kernel
theorem dX6_sums_10 : decode cX6_sums 10 = .ok (.if_icmp .ge 28, 3) := by decide +kernel
theorem dX6_sums_13 : decode cX6_sums 13 = .ok (.ldc2_w 300, 3) := by decide +kernel
theorem dX6_sums_16 : decode cX6_sums 16 = .ok (.lload 5, 2) := by decide +kernel
theorem dX6_sums_18 : decode cX6_sums 18 = .ok (.lmul, 1) := by decide +kernel
theorem dX6_sums_19 : decode cX6_sums 19 = .ok (.aload_n 0, 1) := by decide +kernel
theorem dX6_sums_20 : decode cX6_sums 20 = .ok (.getfield 7, 3) := by decide +kernel
theorem dX6_sums_23 : decode cX6_sums 23 = .ok (.iload_n 3, 1) := by decide +kernel
theorem dX6_sums_24 : decode cX6_sums 24 = .ok (.iload 7, 2) := by decide +kernel
theorem dX6_sums_26 : decode cX6_sums 26 = .ok (.iadd, 1) := by decide +kernel
theorem dX6_sums_27 : decode cX6_sums 27 = .ok (.iaload, 1) := by decide +kernel
theorem dX6_sums_28 : decode cX6_sums 28 = .ok (.i2l, 1) := by decide +kernel
theorem dX6_sums_29 : decode cX6_sums 29 = .ok (.ladd, 1) := by decide +kernel
theorem dX6_sums_30 : decode cX6_sums 30 = .ok (.lstore 5, 2) := by decide +kernel
theorem dX6_sums_32 : decode cX6_sums 32 = .ok (.iinc 7 1, 3) := by decide +kernel
theorem dX6_sums_35 : decode cX6_sums 35 = .ok (.goto (-29), 3) := by decide +kernel
theorem dX6_sums_38 : decode cX6_sums 38 = .ok (.lload 5, 2) := by decide +kernel
theorem dX6_sums_40 : decode cX6_sums 40 = .ok (.lreturn, 1) := by decide +kernel
theorem dX6_digest_0 : decode cX6_digest 0 = .ok (.ldc2_w 302, 3) := by decide +kernel
theorem dX6_digest_3 : decode cX6_digest 3 = .ok (.lstore_n 1, 1) := by decide +kernel
theorem dX6_digest_4 : decode cX6_digest 4 = .ok (.iconst 0, 1) := by decide +kernel
theorem dX6_digest_5 : decode cX6_digest 5 = .ok (.istore_n 3, 1) := by decide +kernel
theorem dX6_digest_6 : decode cX6_digest 6 = .ok (.iload_n 3, 1) := by decide +kernel
theorem dX6_digest_7 : decode cX6_digest 7 = .ok (.bipush 12, 2) := by decide +kernel
theorem dX6_digest_9 : decode cX6_digest 9 = .ok (.if_icmp .ge 22, 3) := by decide +kernel
theorem dX6_digest_12 : decode cX6_digest 12 = .ok (.ldc2_w 300, 3) := by decide +kernel
theorem dX6_digest_15 : decode cX6_digest 15 = .ok (.lload_n 1, 1) := by decide +kernel
theorem dX6_digest_16 : decode cX6_digest 16 = .ok (.lmul, 1) := by decide +kernel
theorem dX6_digest_17 : decode cX6_digest 17 = .ok (.aload_n 0, 1) := by decide +kernel
theorem dX6_digest_18 : decode cX6_digest 18 = .ok (.iload_n 3, 1) := by decide +kernel
theorem dX6_digest_19 : decode cX6_digest 19 = .ok (.invokevirtual 297, 3) := by decide +kernel
theorem dX6_digest_22 : decode cX6_digest 22 = .ok (.i2l, 1) := by decide +kernel
theorem dX6_digest_23 : decode cX6_digest 23 = .ok (.ladd, 1) := by decide +kernel
theorem dX6_digest_24 : decode cX6_digest 24 = .ok (.lstore_n 1, 1) := by decide +kernel
theorem dX6_digest_25 : decode cX6_digest 25 = .ok (.iinc 3 1, 3) := by decide +kernel
theorem dX6_digest_28 : decode cX6_digest 28 = .ok (.goto (-22), 3) := by decide +kernel
theorem dX6_digest_31 : decode cX6_digest 31 = .ok (.iconst 0, 1) := by decide +kernel
theorem dX6_digest_32 : decode cX6_digest 32 = .ok (.istore_n 3, 1) := by decide +kernel
theorem dX6_digest_33 : decode cX6_digest 33 = .ok (.iload_n 3, 1) := by decide +kernel
theorem dX6_digest_34 : decode cX6_digest 34 = .ok (.aload_n 0, 1) := by decide +kernel
theorem dX6_digest_35 : decode cX6_digest 35 = .ok (.invokevirtual 52, 3) := by decide +kernel
theorem dX6_digest_38 : decode cX6_digest 38 = .ok (.if_icmp .ge 39, 3) := by decide +kernel
theorem dX6_digest_41 : decode cX6_digest 41 = .ok (.iconst 0, 1) := by decide +kernel
theorem dX6_digest_42 : decode cX6_digest 42 = .ok (.istore 4, 2) := by decide +kernel
theorem dX6_digest_44 : decode cX6_digest 44 = .ok (.iload 4, 2) := by decide +kernel
theorem dX6_digest_46 : decode cX6_digest 46 = .ok (.iconst 4, 1) := by decide +kernel
theorem dX6_digest_47 : decode cX6_digest 47 = .ok (.if_icmp .ge 24, 3) := by decide +kernel
theorem dX6_digest_50 : decode cX6_digest 50 = .ok (.ldc2_w 300, 3) := by decide +kernel
theorem dX6_digest_53 : decode cX6_digest 53 = .ok (.lload_n 1, 1) := by decide +kernel
theorem dX6_digest_54 : decode cX6_digest 54 = .ok (.lmul, 1) := by decide +kernel
theorem dX6_digest_55 : decode cX6_digest 55 = .ok (.aload_n 0, 1) := by decide +kernel
theorem dX6_digest_56 : decode cX6_digest 56 = .ok (.iload_n 3, 1) := by decide +kernel
theorem dX6_digest_57 : decode cX6_digest 57 = .ok (.iload 4, 2) := by decide +kernel
theorem dX6_digest_59 : decode cX6_digest 59 = .ok (.invokevirtual 143, 3) := by decide +kernel
theorem dX6_digest_62 : decode cX6_digest 62 = .ok (.i2l, 1) := by decide +kernel
theorem dX6_digest_63 : decode cX6_digest 63 = .ok (.ladd, 1) := by decide +kernel
theorem dX6_digest_64 : decode cX6_digest 64 = .ok (.lstore_n 1, 1) := by decide +kernel
theorem dX6_digest_65 : decode cX6_digest 65 = .ok (.iinc 4 1, 3) := by decide +kernel
theorem dX6_digest_68 : decode cX6_digest 68 = .ok (.goto (-24), 3) := by decide +kernel
theorem dX6_digest_71 : decode cX6_digest 71 = .ok (.iinc 3 1, 3) := by decide +kernel
theorem dX6_digest_74 : decode cX6_digest 74 = .ok (.goto (-41), 3) := by decide +kernel
theorem dX6_digest_77 : decode cX6_digest 77 = .ok (.iconst 0, 1) := by decide +kernel
theorem dX6_digest_78 : decode cX6_digest 78 = .ok (.istore_n 3, 1) := by decide +kernel
theorem dX6_digest_79 : decode cX6_digest 79 = .ok (.iload_n 3, 1) := by decide +kernel
theorem dX6_digest_80 : decode cX6_digest 80 = .ok (.aload_n 0, 1) := by decide +kernel
theorem dX6_digest_81 : decode cX6_digest 81 = .ok (.getfield 7, 3) := by decide +kernel
theorem dX6_digest_84 : decode cX6_digest 84 = .ok (.iconst 1, 1) := by decide +kernel
theorem dX6_digest_85 : decode cX6_digest 85 = .ok (.iaload, 1) := by decide +kernel
theorem dX6_digest_86 : decode cX6_digest 86 = .ok (.if_icmp .ge 41, 3) := by decide +kernel
theorem dX6_digest_89 : decode cX6_digest 89 = .ok (.ldc2_w 300, 3) := by decide +kernel
theorem dX6_digest_92 : decode cX6_digest 92 = .ok (.ldc2_w 300, 3) := by decide +kernel
theorem dX6_digest_95 : decode cX6_digest 95 = .ok (.lload_n 1, 1) := by decide +kernel
theorem dX6_digest_96 : decode cX6_digest 96 = .ok (.lmul, 1) := by decide +kernel
theorem dX6_digest_97 : decode cX6_digest 97 = .ok (.aload_n 0, 1) := by decide +kernel
theorem dX6_digest_98 : decode cX6_digest 98 = .ok (.getfield 7, 3) := by decide +kernel
theorem dX6_digest_101 : decode cX6_digest 101 = .ok (.bipush 40, 2) := by decide +kernel
theorem dX6_digest_103 : decode cX6_digest 103 = .ok (.iload_n 3, 1) := by decide +kernel
theorem dX6_digest_104 : decode cX6_digest 104 = .ok (.iadd, 1) := by decide +kernel
theorem dX6_digest_105 : decode cX6_digest 105 = .ok (.iaload, 1) := by decide +kernel
theorem dX6_digest_106 : decode cX6_digest 106 = .ok (.i2l, 1) := by decide +kernel
theorem dX6_digest_107 : decode cX6_digest 107 = .ok (.ladd, 1) := by decide +kernel
theorem dX6_digest_108 : decode cX6_digest 108 = .ok (.lmul, 1) := by decide +kernel
theorem dX6_digest_109 : decode cX6_digest 109 = .ok (.aload_n 0, 1) := by decide +kernel
theorem dX6_digest_110 : decode cX6_digest 110 = .ok (.getfield 7, 3) := by decide +kernel
theorem dX6_digest_113 : decode cX6_digest 113 = .ok (.bipush 44, 2) := by decide +kernel
theorem dX6_digest_115 : decode cX6_digest 115 = .ok (.iload_n 3, 1) := by decide +kernel
theorem dX6_digest_116 : decode cX6_digest 116 = .ok (.iadd, 1) := by decide +kernel
theorem dX6_digest_117 : decode cX6_digest 117 = .ok (.iaload, 1) := by decide +kernel
theorem dX6_digest_118 : decode cX6_digest 118 = .ok (.i2l, 1) := by decide +kernel
theorem dX6_digest_119 : decode cX6_digest 119 = .ok (.ladd, 1) := by decide +kernel
theorem dX6_digest_120 : decode cX6_digest 120 = .ok (.lstore_n 1, 1) := by decide +kernel
theorem dX6_digest_121 : decode cX6_digest 121 = .ok (.iinc 3 1, 3) := by decide +kernel
theorem dX6_digest_124 : decode cX6_digest 124 = .ok (.goto (-45), 3) := by decide +kernel
theorem dX6_digest_127 : decode cX6_digest 127 = .ok (.aload_n 0, 1) := by decide +kernel
theorem dX6_digest_128 : decode cX6_digest 128 = .ok (.lload_n 1, 1) := by decide +kernel
theorem dX6_digest_129 : decode cX6_digest 129 = .ok (.bipush 21, 2) := by decide +kernel
theorem dX6_digest_131 : decode cX6_digest 131 = .ok (.aload_n 0, 1) := by decide +kernel
theorem dX6_digest_132 : decode cX6_digest 132 = .ok (.getfield 7, 3) := by decide +kernel
theorem dX6_digest_135 : decode cX6_digest 135 = .ok (.iconst 2, 1) := by decide +kernel
theorem dX6_digest_136 : decode cX6_digest 136 = .ok (.iaload, 1) := by decide +kernel
theorem dX6_digest_137 : decode cX6_digest 137 = .ok (.invokevirtual 304, 3) := by decide +kernel
theorem dX6_digest_140 : decode cX6_digest 140 = .ok (.lstore_n 1, 1) := by decide +kernel
theorem dX6_digest_141 : decode cX6_digest 141 = .ok (.aload_n 0, 1) := by decide +kernel
theorem dX6_digest_142 : decode cX6_digest 142 = .ok (.lload_n 1, 1) := by decide +kernel
theorem dX6_digest_143 : decode cX6_digest 143 = .ok (.bipush 48, 2) := by decide +kernel
theorem dX6_digest_145 : decode cX6_digest 145 = .ok (.iconst 2, 1) := by decide +kernel
theorem dX6_digest_146 : decode cX6_digest 146 = .ok (.aload_n 0, 1) := by decide +kernel
theorem dX6_digest_147 : decode cX6_digest 147 = .ok (.getfield 7, 3) := by decide +kernel
theorem dX6_digest_150 : decode cX6_digest 150 = .ok (.iconst 3, 1) := by decide +kernel
theorem dX6_digest_151 : decode cX6_digest 151 = .ok (.iaload, 1) := by decide +kernel
theorem dX6_digest_152 : decode cX6_digest 152 = .ok (.imul, 1) := by decide +kernel
theorem dX6_digest_153 : decode cX6_digest 153 = .ok (.invokevirtual 304, 3) := by decide +kernel
theorem dX6_digest_156 : decode cX6_digest 156 = .ok (.lstore_n 1, 1) := by decide +kernel
theorem dX6_digest_157 : decode cX6_digest 157 = .ok (.aload_n 0, 1) := by decide +kernel
theorem dX6_digest_158 : decode cX6_digest 158 = .ok (.lload_n 1, 1) := by decide +kernel
theorem dX6_digest_159 : decode cX6_digest 159 = .ok (.bipush 58, 2) := by decide +kernel
theorem dX6_digest_161 : decode cX6_digest 161 = .ok (.iconst 4, 1) := by decide +kernel
theorem dX6_digest_162 : decode cX6_digest 162 = .ok (.aload_n 0, 1) := by decide +kernel
theorem dX6_digest_163 : decode cX6_digest 163 = .ok (.getfield 7, 3) := by decide +kernel
theorem dX6_digest_166 : decode cX6_digest 166 = .ok (.iconst 4, 1) := by decide +kernel
theorem dX6_digest_167 : decode cX6_digest 167 = .ok (.iaload, 1) := by decide +kernel
theorem dX6_digest_168 : decode cX6_digest 168 = .ok (.imul, 1) := by decide +kernel
theorem dX6_digest_169 : decode cX6_digest 169 = .ok (.invokevirtual 304, 3) := by decide +kernel
theorem dX6_digest_172 : decode cX6_digest 172 = .ok (.lstore_n 1, 1) := by decide +kernel
theorem dX6_digest_173 : decode cX6_digest 173 = .ok (.aload_n 0, 1) := by decide +kernel
theorem dX6_digest_174 : decode cX6_digest 174 = .ok (.lload_n 1, 1) := by decide +kernel
theorem dX6_digest_175 : decode cX6_digest 175 = .ok (.bipush 82, 2) := by decide +kernel
theorem dX6_digest_177 : decode cX6_digest 177 = .ok (.iconst 4, 1) := by decide +kernel
theorem dX6_digest_178 : decode cX6_digest 178 = .ok (.aload_n 0, 1) := by decide +kernel
theorem dX6_digest_179 : decode cX6_digest 179 = .ok (.getfield 7, 3) := by decide +kernel
theorem dX6_digest_182 : decode cX6_digest 182 = .ok (.iconst 5, 1) := by decide +kernel
theorem dX6_digest_183 : decode cX6_digest 183 = .ok (.iaload, 1) := by decide +kernel
theorem dX6_digest_184 : decode cX6_digest 184 = .ok (.imul, 1) := by decide +kernel
theorem dX6_digest_185 : decode cX6_digest 185 = .ok (.invokevirtual 304, 3) := by decide +kernel
theorem dX6_digest_188 : decode cX6_digest 188 = .ok (.lstore_n 1, 1) := by decide +kernel
theorem dX6_digest_189 : decode cX6_digest 189 = .ok (.ldc2_w 300, 3) := by decide +kernel
theorem dX6_digest_192 : decode cX6_digest 192 = .ok (.ldc2_w 300, 3) := by decide +kernel
theorem dX6_digest_195 : decode cX6_digest 195 = .ok (.lload_n 1, 1) := by decide +kernel
theorem dX6_digest_196 : decode cX6_digest 196 = .ok (.lmul, 1) := by decide +kernel
theorem dX6_digest_197 : decode cX6_digest 197 = .ok (.aload_n 0, 1) := by decide +kernel
theorem dX6_digest_198 : decode cX6_digest 198 = .ok (.getfield 199, 3) := by decide +kernel
theorem dX6_digest_201 : decode cX6_digest 201 = .ok (.ladd, 1) := by decide +kernel
theorem dX6_digest_202 : decode cX6_digest 202 = .ok (.lmul, 1) := by decide +kernel
theorem dX6_digest_203 : decode cX6_digest 203 = .ok (.aload_n 0, 1) := by decide +kernel
theorem dX6_digest_204 : decode cX6_digest 204 = .ok (.getfield 23, 3) := by decide +kernel
theorem dX6_digest_207 : decode cX6_digest 207 = .ok (.ladd, 1) := by decide +kernel
theorem dX6_digest_208 : decode cX6_digest 208 = .ok (.lreturn, 1) := by decide +kernel
end
section
theorem dJ0_length_8abf5_0 : decode cJ0_length_8abf5 0 = .ok (.aload_n 0, 1) := by decide +kernel
theorem dJ0_length_8abf5_1 : decode cJ0_length_8abf5 1 = .ok (.getfield 9, 3) := by decide +kernel
theorem dJ0_length_8abf5_4 : decode cJ0_length_8abf5 4 = .ok (.arraylength, 1) := by decide +kernel
theorem dJ0_length_8abf5_5 : decode cJ0_length_8abf5 5 = .ok (.aload_n 0, 1) := by decide +kernel
theorem dJ0_length_8abf5_6 : decode cJ0_length_8abf5 6 = .ok (.invokevirtual 335, 3) := by decide +kernel
theorem dJ0_length_8abf5_9 : decode cJ0_length_8abf5 9 = .ok (.ishr, 1) := by decide +kernel
theorem dJ0_length_8abf5_10 : decode cJ0_length_8abf5 10 = .ok (.ireturn, 1) := by decide +kernel
theorem dJ0_charAt_5068e_0 : decode cJ0_charAt_5068e 0 = .ok (.aload_n 0, 1) := by decide +kernel
theorem dJ0_charAt_5068e_1 : decode cJ0_charAt_5068e 1 = .ok (.invokevirtual 492, 3) := by decide +kernel
theorem dJ0_charAt_5068e_4 : decode cJ0_charAt_5068e 4 = .ok (.ifCond .eq 12, 3) := by decide +kernel
theorem dJ0_charAt_5068e_7 : decode cJ0_charAt_5068e 7 = .ok (.aload_n 0, 1) := by decide +kernel
theorem dJ0_charAt_5068e_8 : decode cJ0_charAt_5068e 8 = .ok (.getfield 9, 3) := by decide +kernel
theorem dJ0_charAt_5068e_11 : decode cJ0_charAt_5068e 11 = .ok (.iload_n 1, 1) := by decide +kernel
theorem dJ0_charAt_5068e_12 : decode cJ0_charAt_5068e 12 = .ok (.invokestatic 495, 3) := by decide +kernel
theorem dJ0_charAt_5068e_15 : decode cJ0_charAt_5068e 15 = .ok (.ireturn, 1) := by decide +kernel
theorem dJ0_charAt_5068e_16 : decode cJ0_charAt_5068e 16 = .ok (.aload_n 0, 1) := by decide +kernel
theorem dJ0_charAt_5068e_17 : decode cJ0_charAt_5068e 17 = .ok (.getfield 9, 3) := by decide +kernel
theorem dJ0_charAt_5068e_20 : decode cJ0_charAt_5068e 20 = .ok (.iload_n 1, 1) := by decide +kernel
theorem dJ0_charAt_5068e_21 : decode cJ0_charAt_5068e 21 = .ok (.invokestatic 498, 3) := by decide +kernel
theorem dJ0_charAt_5068e_24 : decode cJ0_charAt_5068e 24 = .ok (.ireturn, 1) := by decide +kernel
theorem dJ0_coder_7d493_0 : decode cJ0_coder_7d493 0 = .ok (.getstatic 38, 3) := by decide +kernel
theorem dJ0_coder_7d493_3 : decode cJ0_coder_7d493 3 = .ok (.ifCond .eq 10, 3) := by decide +kernel
theorem dJ0_coder_7d493_6 : decode cJ0_coder_7d493 6 = .ok (.aload_n 0, 1) := by decide +kernel
theorem dJ0_coder_7d493_7 : decode cJ0_coder_7d493 7 = .ok (.getfield 15, 3) := by decide +kernel
theorem dJ0_coder_7d493_10 : decode cJ0_coder_7d493 10 = .ok (.goto 4, 3) := by decide +kernel
theorem dJ0_coder_7d493_13 : decode cJ0_coder_7d493 13 = .ok (.iconst 1, 1) := by decide +kernel
theorem dJ0_coder_7d493_14 : decode cJ0_coder_7d493 14 = .ok (.ireturn, 1) := by decide +kernel
theorem dJ0_isLatin1_aae02_0 : decode cJ0_isLatin1_aae02 0 = .ok (.getstatic 38, 3) := by decide +kernel
theorem dJ0_isLatin1_aae02_3 : decode cJ0_isLatin1_aae02 3 = .ok (.ifCond .eq 14, 3) := by decide +kernel
theorem dJ0_isLatin1_aae02_6 : decode cJ0_isLatin1_aae02 6 = .ok (.aload_n 0, 1) := by decide +kernel
theorem dJ0_isLatin1_aae02_7 : decode cJ0_isLatin1_aae02 7 = .ok (.getfield 15, 3) := by decide +kernel
theorem dJ0_isLatin1_aae02_10 : decode cJ0_isLatin1_aae02 10 = .ok (.ifCond .ne 7, 3) := by decide +kernel
theorem dJ0_isLatin1_aae02_13 : decode cJ0_isLatin1_aae02 13 = .ok (.iconst 1, 1) := by decide +kernel
theorem dJ0_isLatin1_aae02_14 : decode cJ0_isLatin1_aae02 14 = .ok (.goto 4, 3) := by decide +kernel
theorem dJ0_isLatin1_aae02_17 : decode cJ0_isLatin1_aae02 17 = .ok (.iconst 0, 1) := by decide +kernel
theorem dJ0_isLatin1_aae02_18 : decode cJ0_isLatin1_aae02 18 = .ok (.ireturn, 1) := by decide +kernel
theorem dJ0_checkIndex_df160_0 : decode cJ0_checkIndex_df160 0 = .ok (.iload_n 0, 1) := by decide +kernel
theorem dJ0_checkIndex_df160_1 : decode cJ0_checkIndex_df160 1 = .ok (.iload_n 1, 1) := by decide +kernel
theorem dJ0_checkIndex_df160_2 : decode cJ0_checkIndex_df160 2 = .ok (.getstatic 1053, 3) := by decide +kernel
theorem dJ0_checkIndex_df160_5 : decode cJ0_checkIndex_df160 5 = .ok (.invokestatic 1059, 3) := by decide +kernel
theorem dJ0_checkIndex_df160_8 : decode cJ0_checkIndex_df160 8 = .ok (.pop, 1) := by decide +kernel
theorem dJ0_checkIndex_df160_9 : decode cJ0_checkIndex_df160 9 = .ok (.return_, 1) := by decide +kernel
theorem dJ1_charAt_3b067_0 : decode cJ1_charAt_3b067 0 = .ok (.iload_n 1, 1) := by decide +kernel
theorem dJ1_charAt_3b067_1 : decode cJ1_charAt_3b067 1 = .ok (.aload_n 0, 1) := by decide +kernel
theorem dJ1_charAt_3b067_2 : decode cJ1_charAt_3b067 2 = .ok (.arraylength, 1) := by decide +kernel
theorem dJ1_charAt_3b067_3 : decode cJ1_charAt_3b067 3 = .ok (.invokestatic 9, 3) := by decide +kernel
theorem dJ1_charAt_3b067_6 : decode cJ1_charAt_3b067 6 = .ok (.aload_n 0, 1) := by decide +kernel
theorem dJ1_charAt_3b067_7 : decode cJ1_charAt_3b067 7 = .ok (.iload_n 1, 1) := by decide +kernel
theorem dJ1_charAt_3b067_8 : decode cJ1_charAt_3b067 8 = .ok (.baload, 1) := by decide +kernel
theorem dJ1_charAt_3b067_9 : decode cJ1_charAt_3b067 9 = .ok (.sipush 255, 3) := by decide +kernel
theorem dJ1_charAt_3b067_12 : decode cJ1_charAt_3b067 12 = .ok (.iand, 1) := by decide +kernel
theorem dJ1_charAt_3b067_13 : decode cJ1_charAt_3b067 13 = .ok (.i2c, 1) := by decide +kernel
theorem dJ1_charAt_3b067_14 : decode cJ1_charAt_3b067 14 = .ok (.ireturn, 1) := by decide +kernel
theorem dJ2_getChar_3b067_0 : decode cJ2_getChar_3b067 0 = .ok (.getstatic 44, 3) := by decide +kernel
theorem dJ2_getChar_3b067_3 : decode cJ2_getChar_3b067 3 = .ok (.ifCond .ne 25, 3) := by decide +kernel
theorem dJ2_getChar_3b067_6 : decode cJ2_getChar_3b067 6 = .ok (.iload_n 1, 1) := by decide +kernel
theorem dJ2_getChar_3b067_7 : decode cJ2_getChar_3b067 7 = .ok (.ifCond .lt 11, 3) := by decide +kernel
theorem dJ2_getChar_3b067_10 : decode cJ2_getChar_3b067 10 = .ok (.iload_n 1, 1) := by decide +kernel
theorem dJ2_getChar_3b067_11 : decode cJ2_getChar_3b067 11 = .ok (.aload_n 0, 1) := by decide +kernel
theorem dJ2_getChar_3b067_12 : decode cJ2_getChar_3b067 12 = .ok (.invokestatic 48, 3) := by decide +kernel
theorem dJ2_getChar_3b067_15 : decode cJ2_getChar_3b067 15 = .ok (.if_icmp .lt 13, 3) := by decide +kernel
theorem dJ2_getChar_3b067_18 : decode cJ2_getChar_3b067 18 = .ok (.new 52, 3) := by decide +kernel
theorem dJ2_getChar_3b067_21 : decode cJ2_getChar_3b067 21 = .ok (.dup, 1) := by decide +kernel
theorem dJ2_getChar_3b067_22 : decode cJ2_getChar_3b067 22 = .ok (.ldc 54, 2) := by decide +kernel
theorem dJ2_getChar_3b067_24 : decode cJ2_getChar_3b067 24 = .ok (.invokespecial 56, 3) := by decide +kernel
theorem dJ2_getChar_3b067_27 : decode cJ2_getChar_3b067 27 = .ok (.athrow, 1) := by decide +kernel
theorem dJ2_getChar_3b067_28 : decode cJ2_getChar_3b067 28 = .ok (.iload_n 1, 1) := by decide +kernel
theorem dJ2_getChar_3b067_29 : decode cJ2_getChar_3b067 29 = .ok (.iconst 1, 1) := by decide +kernel
theorem dJ2_getChar_3b067_30 : decode cJ2_getChar_3b067 30 = .ok (.ishl, 1) := by decide +kernel
theorem dJ2_getChar_3b067_31 : decode cJ2_getChar_3b067 31 = .ok (.istore_n 1, 1) := by decide +kernel
theorem dJ2_getChar_3b067_32 : decode cJ2_getChar_3b067 32 = .ok (.aload_n 0, 1) := by decide +kernel
theorem dJ2_getChar_3b067_33 : decode cJ2_getChar_3b067 33 = .ok (.iload_n 1, 1) := by decide +kernel
theorem dJ2_getChar_3b067_34 : decode cJ2_getChar_3b067 34 = .ok (.iinc 1 1, 3) := by decide +kernel
theorem dJ2_getChar_3b067_37 : decode cJ2_getChar_3b067 37 = .ok (.baload, 1) := by decide +kernel
theorem dJ2_getChar_3b067_38 : decode cJ2_getChar_3b067 38 = .ok (.sipush 255, 3) := by decide +kernel
theorem dJ2_getChar_3b067_41 : decode cJ2_getChar_3b067 41 = .ok (.iand, 1) := by decide +kernel
theorem dJ2_getChar_3b067_42 : decode cJ2_getChar_3b067 42 = .ok (.getstatic 59, 3) := by decide +kernel
theorem dJ2_getChar_3b067_45 : decode cJ2_getChar_3b067 45 = .ok (.ishl, 1) := by decide +kernel
theorem dJ2_getChar_3b067_46 : decode cJ2_getChar_3b067 46 = .ok (.aload_n 0, 1) := by decide +kernel
theorem dJ2_getChar_3b067_47 : decode cJ2_getChar_3b067 47 = .ok (.iload_n 1, 1) := by decide +kernel
theorem dJ2_getChar_3b067_48 : decode cJ2_getChar_3b067 48 = .ok (.baload, 1) := by decide +kernel
theorem dJ2_getChar_3b067_49 : decode cJ2_getChar_3b067 49 = .ok (.sipush 255, 3) := by decide +kernel
theorem dJ2_getChar_3b067_52 : decode cJ2_getChar_3b067 52 = .ok (.iand, 1) := by decide +kernel
theorem dJ2_getChar_3b067_53 : decode cJ2_getChar_3b067 53 = .ok (.getstatic 63, 3) := by decide +kernel
theorem dJ2_getChar_3b067_56 : decode cJ2_getChar_3b067 56 = .ok (.ishl, 1) := by decide +kernel
theorem dJ2_getChar_3b067_57 : decode cJ2_getChar_3b067 57 = .ok (.ior, 1) := by decide +kernel
theorem dJ2_getChar_3b067_58 : decode cJ2_getChar_3b067 58 = .ok (.i2c, 1) := by decide +kernel
theorem dJ2_getChar_3b067_59 : decode cJ2_getChar_3b067 59 = .ok (.ireturn, 1) := by decide +kernel
theorem dJ2_length_9d52b_0 : decode cJ2_length_9d52b 0 = .ok (.aload_n 0, 1) := by decide +kernel
theorem dJ2_length_9d52b_1 : decode cJ2_length_9d52b 1 = .ok (.arraylength, 1) := by decide +kernel
theorem dJ2_length_9d52b_2 : decode cJ2_length_9d52b 2 = .ok (.iconst 1, 1) := by decide +kernel
theorem dJ2_length_9d52b_3 : decode cJ2_length_9d52b 3 = .ok (.ishr, 1) := by decide +kernel
theorem dJ2_length_9d52b_4 : decode cJ2_length_9d52b 4 = .ok (.ireturn, 1) := by decide +kernel
theorem dJ2_charAt_3b067_0 : decode cJ2_charAt_3b067 0 = .ok (.iload_n 1, 1) := by decide +kernel
theorem dJ2_charAt_3b067_1 : decode cJ2_charAt_3b067 1 = .ok (.aload_n 0, 1) := by decide +kernel
theorem dJ2_charAt_3b067_2 : decode cJ2_charAt_3b067 2 = .ok (.invokestatic 67, 3) := by decide +kernel
theorem dJ2_charAt_3b067_5 : decode cJ2_charAt_3b067 5 = .ok (.aload_n 0, 1) := by decide +kernel
theorem dJ2_charAt_3b067_6 : decode cJ2_charAt_3b067 6 = .ok (.iload_n 1, 1) := by decide +kernel
theorem dJ2_charAt_3b067_7 : decode cJ2_charAt_3b067 7 = .ok (.invokestatic 71, 3) := by decide +kernel
theorem dJ2_charAt_3b067_10 : decode cJ2_charAt_3b067 10 = .ok (.ireturn, 1) := by decide +kernel
theorem dJ2_checkIndex_2214a_0 : decode cJ2_checkIndex_2214a 0 = .ok (.iload_n 0, 1) := by decide +kernel
theorem dJ2_checkIndex_2214a_1 : decode cJ2_checkIndex_2214a 1 = .ok (.aload_n 1, 1) := by decide +kernel
theorem dJ2_checkIndex_2214a_2 : decode cJ2_checkIndex_2214a 2 = .ok (.invokestatic 48, 3) := by decide +kernel
theorem dJ2_checkIndex_2214a_5 : decode cJ2_checkIndex_2214a 5 = .ok (.invokestatic 414, 3) := by decide +kernel
theorem dJ2_checkIndex_2214a_8 : decode cJ2_checkIndex_2214a 8 = .ok (.return_, 1) := by decide +kernel
theorem dJ3_checkIndex_8e157_0 : decode cJ3_checkIndex_8e157 0 = .ok (.iload_n 0, 1) := by decide +kernel
theorem dJ3_checkIndex_8e157_1 : decode cJ3_checkIndex_8e157 1 = .ok (.ifCond .lt 8, 3) := by decide +kernel
theorem dJ3_checkIndex_8e157_4 : decode cJ3_checkIndex_8e157 4 = .ok (.iload_n 0, 1) := by decide +kernel
theorem dJ3_checkIndex_8e157_5 : decode cJ3_checkIndex_8e157 5 = .ok (.iload_n 1, 1) := by decide +kernel
theorem dJ3_checkIndex_8e157_6 : decode cJ3_checkIndex_8e157 6 = .ok (.if_icmp .lt 10, 3) := by decide +kernel
theorem dJ3_checkIndex_8e157_9 : decode cJ3_checkIndex_8e157 9 = .ok (.aload_n 2, 1) := by decide +kernel
theorem dJ3_checkIndex_8e157_10 : decode cJ3_checkIndex_8e157 10 = .ok (.iload_n 0, 1) := by decide +kernel
theorem dJ3_checkIndex_8e157_11 : decode cJ3_checkIndex_8e157 11 = .ok (.iload_n 1, 1) := by decide +kernel
theorem dJ3_checkIndex_8e157_12 : decode cJ3_checkIndex_8e157 12 = .ok (.invokestatic 95, 3) := by decide +kernel
theorem dJ3_checkIndex_8e157_15 : decode cJ3_checkIndex_8e157 15 = .ok (.athrow, 1) := by decide +kernel
theorem dJ3_checkIndex_8e157_16 : decode cJ3_checkIndex_8e157 16 = .ok (.iload_n 0, 1) := by decide +kernel
theorem dJ3_checkIndex_8e157_17 : decode cJ3_checkIndex_8e157 17 = .ok (.ireturn, 1) := by decide +kernel
theorem dJ6_bitCount_0f7a4_0 : decode cJ6_bitCount_0f7a4 0 = .ok (.iload_n 0, 1) := by decide +kernel
theorem dJ6_bitCount_0f7a4_1 : decode cJ6_bitCount_0f7a4 1 = .ok (.iload_n 0, 1) := by decide +kernel
theorem dJ6_bitCount_0f7a4_2 : decode cJ6_bitCount_0f7a4 2 = .ok (.iconst 1, 1) := by decide +kernel
theorem dJ6_bitCount_0f7a4_3 : decode cJ6_bitCount_0f7a4 3 = .ok (.iushr, 1) := by decide +kernel
theorem dJ6_bitCount_0f7a4_4 : decode cJ6_bitCount_0f7a4 4 = .ok (.ldc_w 265, 3) := by decide +kernel
theorem dJ6_bitCount_0f7a4_7 : decode cJ6_bitCount_0f7a4 7 = .ok (.iand, 1) := by decide +kernel
theorem dJ6_bitCount_0f7a4_8 : decode cJ6_bitCount_0f7a4 8 = .ok (.isub, 1) := by decide +kernel
theorem dJ6_bitCount_0f7a4_9 : decode cJ6_bitCount_0f7a4 9 = .ok (.istore_n 0, 1) := by decide +kernel
theorem dJ6_bitCount_0f7a4_10 : decode cJ6_bitCount_0f7a4 10 = .ok (.iload_n 0, 1) := by decide +kernel
theorem dJ6_bitCount_0f7a4_11 : decode cJ6_bitCount_0f7a4 11 = .ok (.ldc_w 266, 3) := by decide +kernel
theorem dJ6_bitCount_0f7a4_14 : decode cJ6_bitCount_0f7a4 14 = .ok (.iand, 1) := by decide +kernel
theorem dJ6_bitCount_0f7a4_15 : decode cJ6_bitCount_0f7a4 15 = .ok (.iload_n 0, 1) := by decide +kernel
theorem dJ6_bitCount_0f7a4_16 : decode cJ6_bitCount_0f7a4 16 = .ok (.iconst 2, 1) := by decide +kernel
theorem dJ6_bitCount_0f7a4_17 : decode cJ6_bitCount_0f7a4 17 = .ok (.iushr, 1) := by decide +kernel
theorem dJ6_bitCount_0f7a4_18 : decode cJ6_bitCount_0f7a4 18 = .ok (.ldc_w 266, 3) := by decide +kernel
theorem dJ6_bitCount_0f7a4_21 : decode cJ6_bitCount_0f7a4 21 = .ok (.iand, 1) := by decide +kernel
theorem dJ6_bitCount_0f7a4_22 : decode cJ6_bitCount_0f7a4 22 = .ok (.iadd, 1) := by decide +kernel
theorem dJ6_bitCount_0f7a4_23 : decode cJ6_bitCount_0f7a4 23 = .ok (.istore_n 0, 1) := by decide +kernel
theorem dJ6_bitCount_0f7a4_24 : decode cJ6_bitCount_0f7a4 24 = .ok (.iload_n 0, 1) := by decide +kernel
theorem dJ6_bitCount_0f7a4_25 : decode cJ6_bitCount_0f7a4 25 = .ok (.iload_n 0, 1) := by decide +kernel
theorem dJ6_bitCount_0f7a4_26 : decode cJ6_bitCount_0f7a4 26 = .ok (.iconst 4, 1) := by decide +kernel
theorem dJ6_bitCount_0f7a4_27 : decode cJ6_bitCount_0f7a4 27 = .ok (.iushr, 1) := by decide +kernel
theorem dJ6_bitCount_0f7a4_28 : decode cJ6_bitCount_0f7a4 28 = .ok (.iadd, 1) := by decide +kernel
theorem dJ6_bitCount_0f7a4_29 : decode cJ6_bitCount_0f7a4 29 = .ok (.ldc_w 267, 3) := by decide +kernel
theorem dJ6_bitCount_0f7a4_32 : decode cJ6_bitCount_0f7a4 32 = .ok (.iand, 1) := by decide +kernel
theorem dJ6_bitCount_0f7a4_33 : decode cJ6_bitCount_0f7a4 33 = .ok (.istore_n 0, 1) := by decide +kernel
theorem dJ6_bitCount_0f7a4_34 : decode cJ6_bitCount_0f7a4 34 = .ok (.iload_n 0, 1) := by decide +kernel
theorem dJ6_bitCount_0f7a4_35 : decode cJ6_bitCount_0f7a4 35 = .ok (.iload_n 0, 1) := by decide +kernel
theorem dJ6_bitCount_0f7a4_36 : decode cJ6_bitCount_0f7a4 36 = .ok (.bipush 8, 2) := by decide +kernel
theorem dJ6_bitCount_0f7a4_38 : decode cJ6_bitCount_0f7a4 38 = .ok (.iushr, 1) := by decide +kernel
theorem dJ6_bitCount_0f7a4_39 : decode cJ6_bitCount_0f7a4 39 = .ok (.iadd, 1) := by decide +kernel
theorem dJ6_bitCount_0f7a4_40 : decode cJ6_bitCount_0f7a4 40 = .ok (.istore_n 0, 1) := by decide +kernel
theorem dJ6_bitCount_0f7a4_41 : decode cJ6_bitCount_0f7a4 41 = .ok (.iload_n 0, 1) := by decide +kernel
theorem dJ6_bitCount_0f7a4_42 : decode cJ6_bitCount_0f7a4 42 = .ok (.iload_n 0, 1) := by decide +kernel
theorem dJ6_bitCount_0f7a4_43 : decode cJ6_bitCount_0f7a4 43 = .ok (.bipush 16, 2) := by decide +kernel
theorem dJ6_bitCount_0f7a4_45 : decode cJ6_bitCount_0f7a4 45 = .ok (.iushr, 1) := by decide +kernel
theorem dJ6_bitCount_0f7a4_46 : decode cJ6_bitCount_0f7a4 46 = .ok (.iadd, 1) := by decide +kernel
theorem dJ6_bitCount_0f7a4_47 : decode cJ6_bitCount_0f7a4 47 = .ok (.istore_n 0, 1) := by decide +kernel
theorem dJ6_bitCount_0f7a4_48 : decode cJ6_bitCount_0f7a4 48 = .ok (.iload_n 0, 1) := by decide +kernel
theorem dJ6_bitCount_0f7a4_49 : decode cJ6_bitCount_0f7a4 49 = .ok (.bipush 63, 2) := by decide +kernel
theorem dJ6_bitCount_0f7a4_51 : decode cJ6_bitCount_0f7a4 51 = .ok (.iand, 1) := by decide +kernel
theorem dJ6_bitCount_0f7a4_52 : decode cJ6_bitCount_0f7a4 52 = .ok (.ireturn, 1) := by decide +kernel
theorem dJ9_abs_0f7a4_0 : decode cJ9_abs_0f7a4 0 = .ok (.iload_n 0, 1) := by decide +kernel
theorem dJ9_abs_0f7a4_1 : decode cJ9_abs_0f7a4 1 = .ok (.ifCond .ge 8, 3) := by decide +kernel
theorem dJ9_abs_0f7a4_4 : decode cJ9_abs_0f7a4 4 = .ok (.iload_n 0, 1) := by decide +kernel
theorem dJ9_abs_0f7a4_5 : decode cJ9_abs_0f7a4 5 = .ok (.ineg, 1) := by decide +kernel
theorem dJ9_abs_0f7a4_6 : decode cJ9_abs_0f7a4 6 = .ok (.goto 4, 3) := by decide +kernel
theorem dJ9_abs_0f7a4_9 : decode cJ9_abs_0f7a4 9 = .ok (.iload_n 0, 1) := by decide +kernel
theorem dJ9_abs_0f7a4_10 : decode cJ9_abs_0f7a4 10 = .ok (.ireturn, 1) := by decide +kernel
theorem dJ9_max_7cf53_0 : decode cJ9_max_7cf53 0 = .ok (.iload_n 0, 1) := by decide +kernel
theorem dJ9_max_7cf53_1 : decode cJ9_max_7cf53 1 = .ok (.iload_n 1, 1) := by decide +kernel
theorem dJ9_max_7cf53_2 : decode cJ9_max_7cf53 2 = .ok (.if_icmp .lt 7, 3) := by decide +kernel
theorem dJ9_max_7cf53_5 : decode cJ9_max_7cf53 5 = .ok (.iload_n 0, 1) := by decide +kernel
theorem dJ9_max_7cf53_6 : decode cJ9_max_7cf53 6 = .ok (.goto 4, 3) := by decide +kernel
theorem dJ9_max_7cf53_9 : decode cJ9_max_7cf53 9 = .ok (.iload_n 1, 1) := by decide +kernel
theorem dJ9_max_7cf53_10 : decode cJ9_max_7cf53 10 = .ok (.ireturn, 1) := by decide +kernel
theorem dJ9_min_7cf53_0 : decode cJ9_min_7cf53 0 = .ok (.iload_n 0, 1) := by decide +kernel
theorem dJ9_min_7cf53_1 : decode cJ9_min_7cf53 1 = .ok (.iload_n 1, 1) := by decide +kernel
theorem dJ9_min_7cf53_2 : decode cJ9_min_7cf53 2 = .ok (.if_icmp .gt 7, 3) := by decide +kernel
theorem dJ9_min_7cf53_5 : decode cJ9_min_7cf53 5 = .ok (.iload_n 0, 1) := by decide +kernel
theorem dJ9_min_7cf53_6 : decode cJ9_min_7cf53 6 = .ok (.goto 4, 3) := by decide +kernel
theorem dJ9_min_7cf53_9 : decode cJ9_min_7cf53 9 = .ok (.iload_n 1, 1) := by decide +kernel
theorem dJ9_min_7cf53_10 : decode cJ9_min_7cf53 10 = .ok (.ireturn, 1) := by decide +kernel
end
section
/-! THE CORE: one world of 85 cells for the class (ids 0..72) and the reference (ids 73..84); Ev: 'from here the method ends well'; Ct: a method's contract. -/
def xtbl : List Cond := lw_tbl.filter goodWord
def x_isNest : Cond → Bool
  | .fieldLinkNest .. => true
  | .methodLinkNest .. => true
  | _ => false
def xnest : List Cond := lw_tbl.filter x_isNest
theorem x_in {w : Cond} (i : Nat) (h : lw_tbl[i]? = some w) (hg : goodWord w = true) : w ∈ xtbl := List.mem_filter.mpr ⟨List.mem_of_getElem? h, hg⟩
theorem x_nin {w : Cond} (i : Nat) (h : lw_tbl[i]? = some w) (hg : x_isNest w = true) : w ∈ xnest := List.mem_filter.mpr ⟨List.mem_of_getElem? h, hg⟩
theorem x_inw {ws : List Cond} (h : (ws.all fun w => goodWord w) = true) (h2 : ∀ w ∈ ws, w ∈ lw_tbl) : ∀ w ∈ ws, w ∈ xtbl := fun w hw => List.mem_filter.mpr ⟨h2 w hw, List.all_eq_true.mp h w hw⟩
theorem x_good : ∀ w ∈ xtbl, (w.onTables && w.keeps) = true ∨ ∃ ty, w = .arrayClass ty := fun _ h => good_of_word (List.mem_filter.mp h).2
theorem x_goodIn (w0 : Cond) {w : Cond} (hw : w ∈ xtbl) : GoodIn (w0 :: xtbl) (w :: xtbl) := by
  intro v hv
  rcases List.mem_cons.mp hv with rfl | h
  · exact ⟨List.mem_cons_of_mem _ hw, x_good _ hw⟩
  · exact ⟨List.mem_cons_of_mem _ h, x_good _ h⟩
theorem x_goodIn' {w : Cond} (hw : w ∈ xtbl) : GoodIn xtbl (w :: xtbl) := by
  intro v hv
  rcases List.mem_cons.mp hv with rfl | h
  · exact ⟨hw, x_good _ hw⟩
  · exact ⟨h, x_good _ h⟩
/-! ===== the state: ints and longs by cell and place; the shape ===== -/
abbrev xS : Type := (Nat → Nat → Int32) × (Nat → Nat → Int64)
/-- addresses (strings from 1000 on, their rows from 1100 on), class numbers, the classes of int[] and boolean[] -/
abbrev xE : Type := (Nat → Nat) × (va_G × (ClassId × ClassId))
def xN : Nat := 85
/-- class of a cell: 0 Hints, 1 Past, 2 Reader, 3 Shop, 4 Town, 5 PledgeWindow, 6 the reference; 7 int[], 8 boolean[] -/
def xclsL : List Nat := [5] ++ [3, 4, 7, 7, 7, 7, 7, 7, 7, 1, 7, 0, 7, 0, 7, 0, 7] ++ [3, 4, 7, 7, 7, 7, 7, 7, 7, 1, 7, 0, 7, 0, 7, 0, 7] ++ [3, 4, 7, 7, 7, 7, 7, 7, 7, 1, 7, 0, 7, 0, 7, 0, 7] ++ [2, 7, 4, 7, 7, 7, 7, 7, 7, 7] ++ [4, 7, 7, 7, 7, 7, 7, 7] ++ [7, 7, 7] ++ [6, 7, 7, 8, 7, 7, 7, 7, 7, 7, 7, 7]
def xcls (i : Nat) : Nat := xclsL.getD i 9
def xlenL : List Nat := [0] ++ [0, 0, 7, 7, 7, 7, 4, 4, 3, 0, 152, 0, 20, 0, 24, 0, 24] ++ [0, 0, 7, 7, 7, 7, 4, 4, 3, 0, 152, 0, 20, 0, 24, 0, 24] ++ [0, 0, 7, 7, 7, 7, 4, 4, 3, 0, 152, 0, 20, 0, 24, 0, 24] ++ [0, 150, 0, 7, 7, 7, 7, 4, 4, 3] ++ [0, 7, 7, 7, 7, 4, 4, 3] ++ [28, 7, 7] ++ [0, 258, 516, 2, 3, 4, 4, 7, 48, 150, 106, 2]
def xlen (i : Nat) : Nat := xlenL.getD i 0
/-- what an object of class c at id i holds -/
def xfs (E : xE) (f : Nat → Int32) (g : Nat → Int64) (c i : Nat) : List Value :=
  match c with
  | 0 => [.int (f 0), .ref (E.1 (i + 1)), .int (f 2)]
  | 1 => [.ref (E.1 (i + 1)), .int (f 1)]
  | 2 => [.ref (E.1 (i + 1)), .ref (E.1 (i + 2)), .int (f 2), .int (f 3), .int (f 4), .int (f 5), .int (f 6), .int (f 7), .int (f 8)]
  | 3 => [.ref (E.1 (i + 1)), .ref (E.1 (i + 9)), .ref (E.1 (i + 11)), .ref (E.1 (i + 13)), .ref (E.1 (i + 15)), .int (f 5)]
  | 4 => [.ref (E.1 (i + 1)), .ref (E.1 (i + 2)), .ref (E.1 (i + 3)), .ref (E.1 (i + 4)), .ref (E.1 (i + 5)), .ref (E.1 (i + 6)), .ref (E.1 (i + 7)), .int (f 7), .int (f 8), .int (f 9), .int (f 10), .int (f 11)]
  | 5 => [.ref (E.1 1), .ref (E.1 18), .ref (E.1 35), .ref (E.1 52), .ref (E.1 62), .ref (E.1 70), .ref (E.1 71), .ref (E.1 72), .long (g 8), .long (g 9), .int (f 10), .int (f 11), .int (f 12)]
  | _ => [.ref (E.1 74), .ref (E.1 75), .ref (E.1 76), .ref (E.1 77), .long (g 4), .long (g 5), .ref (E.1 78), .ref (E.1 79), .ref (E.1 80), .ref (E.1 81), .ref (E.1 82), .int (f 11), .int (f 12), .int (f 13), .int (f 14), .int (f 15), .ref (E.1 83), .ref (E.1 84)]
def xct (E : xE) (i : Nat) (f : Nat → Int32) (g : Nat → Int64) : va_E :=
  if xcls i < 7 then .inr (xcls i, xfs E f g (xcls i) i) else .inl (if xcls i = 7 then E.2.2.1 else E.2.2.2, (xlen i, .inl f))
def xw (E : xE) (σ : xS) : va_W := (List.range xN).map (fun i => (E.1 i, xct E i (σ.1 i) (σ.2 i)))
def xu (σ : xS) (i k : Nat) (v : Int32) : xS := (fun a b => if a = i ∧ b = k then v else σ.1 a b, σ.2)
def xul (σ : xS) (i k : Nat) (v : Int64) : xS := (σ.1, fun a b => if a = i ∧ b = k then v else σ.2 a b)
def xupl (f : Nat → Int64) (k : Nat) (x : Int64) : Nat → Int64 := fun j => if j = k then x else f j
/-- whole rows: what array i holds becomes f -/
def xrow (σ : xS) (i : Nat) (f : Nat → Int32) : xS := (fun a => if a = i then f else σ.1 a, σ.2)
theorem xu_at (σ : xS) (i k : Nat) (v : Int32) : (xu σ i k v).1 i = upd (σ.1 i) k v := by funext b; simp [xu, upd]
theorem xu_ne (σ : xS) {i j : Nat} (k : Nat) (v : Int32) (h : j ≠ i) : (xu σ i k v).1 j = σ.1 j := by funext b; simp [xu, h]
theorem xul_at (σ : xS) (i k : Nat) (v : Int64) : (xul σ i k v).2 i = xupl (σ.2 i) k v := by funext b; simp [xul, xupl]
theorem xul_ne (σ : xS) {i j : Nat} (k : Nat) (v : Int64) (h : j ≠ i) : (xul σ i k v).2 j = σ.2 j := by funext b; simp [xul, h]
theorem xw_get (E : xE) (σ : xS) {i : Nat} (h : i < xN) : (xw E σ)[i]? = some (E.1 i, xct E i (σ.1 i) (σ.2 i)) := by simp [xw, h]
theorem xw_getO (E : xE) (σ : xS) {i ci : Nat} (h : i < xN ∧ xcls i = ci) (h7 : ci < 7) : (xw E σ)[i]? = some (E.1 i, .inr (ci, xfs E (σ.1 i) (σ.2 i) ci i)) := by
  rw [xw_get E σ h.1, xct, h.2, if_pos h7]
theorem xw_getI (E : xE) (σ : xS) {i : Nat} (h : i < xN ∧ xcls i = 7) : (xw E σ)[i]? = some (E.1 i, .inl (E.2.2.1, (xlen i, .inl (σ.1 i)))) := by
  rw [xw_get E σ h.1, xct, h.2, if_neg (by decide), if_pos rfl]
theorem xw_getZ (E : xE) (σ : xS) {i : Nat} (h : i < xN ∧ xcls i = 8) : (xw E σ)[i]? = some (E.1 i, .inl (E.2.2.2, (xlen i, .inl (σ.1 i)))) := by
  rw [xw_get E σ h.1, xct, h.2, if_neg (by decide), if_neg (by decide)]
theorem xw_set (E : xE) (σ σ' : xS) {i : Nat} {x : va_E} (hi : i < xN) (hx : xct E i (σ'.1 i) (σ'.2 i) = x) (ho : ∀ j, j ≠ i → σ'.1 j = σ.1 j ∧ σ'.2 j = σ.2 j) : (xw E σ).set i (E.1 i, x) = xw E σ' := by
  apply List.ext_getElem?
  intro j
  rw [List.getElem?_set]
  by_cases hj : i = j
  · subst hj
    simp [xw, hi, hx]
  · rw [if_neg hj]
    by_cases hN : j < xN
    · rw [xw_get E σ hN, xw_get E σ' hN, (ho j (fun h => hj h.symm)).1, (ho j (fun h => hj h.symm)).2]
    · simp [xw, hN]
theorem xw_setI (E : xE) (σ : xS) {i k : Nat} (v : Int32) (h : i < xN ∧ xcls i = 7) : (xw E σ).set i (E.1 i, .inl (E.2.2.1, (xlen i, .inl (upd (σ.1 i) k v)))) = xw E (xu σ i k v) :=
  xw_set E σ _ h.1 (by rw [xct, h.2, if_neg (by decide), if_pos rfl, xu_at]) (fun j hj => ⟨xu_ne σ k v hj, rfl⟩)
theorem xw_setZ (E : xE) (σ : xS) {i k : Nat} (v : Int32) (h : i < xN ∧ xcls i = 8) : (xw E σ).set i (E.1 i, .inl (E.2.2.2, (xlen i, .inl (upd (σ.1 i) k v)))) = xw E (xu σ i k v) :=
  xw_set E σ _ h.1 (by rw [xct, h.2, if_neg (by decide), if_neg (by decide), xu_at]) (fun j hj => ⟨xu_ne σ k v hj, rfl⟩)
theorem xw_setRow (E : xE) (σ : xS) {i : Nat} (f : Nat → Int32) (h : i < xN ∧ xcls i = 7) : (xw E σ).set i (E.1 i, .inl (E.2.2.1, (xlen i, .inl f))) = xw E (xrow σ i f) :=
  xw_set E σ _ h.1 (by rw [xct, h.2, if_neg (by decide), if_pos rfl]; simp [xrow]) (fun j hj => ⟨by simp [xrow, hj], rfl⟩)
def xint (c k : Nat) : Bool := match c with
  | 0 => k = 0 || k = 2
  | 1 => k = 1
  | 2 => 2 ≤ k && k < 9
  | 3 => k = 5
  | 4 => 7 ≤ k && k < 12
  | 5 => 10 ≤ k && k < 13
  | 6 => 11 ≤ k && k < 16
  | _ => false
def xlng (c k : Nat) : Bool := match c with
  | 5 => k = 8 || k = 9
  | 6 => k = 4 || k = 5
  | _ => false
theorem xfs_set (E : xE) (f : Nat → Int32) (g : Nat → Int64) (v : Int32) (i : Nat) : ∀ c k, xint c k = true → (xfs E f g c i).set k (.int v) = xfs E (upd f k v) g c i := by
  intro c k h
  match c, k, h with
  | 0, 0, _ => rfl
  | 0, 2, _ => rfl
  | 1, 1, _ => rfl
  | 2, 2, _ => rfl
  | 2, 3, _ => rfl
  | 2, 4, _ => rfl
  | 2, 5, _ => rfl
  | 2, 6, _ => rfl
  | 2, 7, _ => rfl
  | 2, 8, _ => rfl
  | 3, 5, _ => rfl
  | 4, 7, _ => rfl
  | 4, 8, _ => rfl
  | 4, 9, _ => rfl
  | 4, 10, _ => rfl
  | 4, 11, _ => rfl
  | 5, 10, _ => rfl
  | 5, 11, _ => rfl
  | 5, 12, _ => rfl
  | 6, 11, _ => rfl
  | 6, 12, _ => rfl
  | 6, 13, _ => rfl
  | 6, 14, _ => rfl
  | 6, 15, _ => rfl
  | 0, 1, h => simp [xint] at h
  | 0, k + 3, h => simp [xint] at h
  | 1, 0, h => simp [xint] at h
  | 1, k + 2, h => simp [xint] at h
  | 2, 0, h => simp [xint] at h
  | 2, 1, h => simp [xint] at h
  | 2, k + 9, h => simp [xint] at h; omega
  | 3, 0, h => simp [xint] at h
  | 3, 1, h => simp [xint] at h
  | 3, 2, h => simp [xint] at h
  | 3, 3, h => simp [xint] at h
  | 3, 4, h => simp [xint] at h
  | 3, k + 6, h => simp [xint] at h
  | 4, k, h =>
    simp [xint] at h
    rcases (show k = 7 ∨ k = 8 ∨ k = 9 ∨ k = 10 ∨ k = 11 by omega) with rfl | rfl | rfl | rfl | rfl <;> rfl
  | 5, k, h =>
    simp [xint] at h
    rcases (show k = 10 ∨ k = 11 ∨ k = 12 by omega) with rfl | rfl | rfl <;> rfl
  | 6, k, h =>
    simp [xint] at h
    rcases (show k = 11 ∨ k = 12 ∨ k = 13 ∨ k = 14 ∨ k = 15 by omega) with rfl | rfl | rfl | rfl | rfl <;> rfl
  | c + 7, k, h => simp [xint] at h
theorem xfs_setl (E : xE) (f : Nat → Int32) (g : Nat → Int64) (v : Int64) (i : Nat) : ∀ c k, xlng c k = true → (xfs E f g c i).set k (.long v) = xfs E f (xupl g k v) c i := by
  intro c k h
  match c, k, h with
  | 5, k, h =>
    simp [xlng] at h
    rcases h with rfl | rfl <;> rfl
  | 6, k, h =>
    simp [xlng] at h
    rcases h with rfl | rfl <;> rfl
  | 0, k, h => simp [xlng] at h
  | 1, k, h => simp [xlng] at h
  | 2, k, h => simp [xlng] at h
  | 3, k, h => simp [xlng] at h
  | 4, k, h => simp [xlng] at h
  | c + 7, k, h => simp [xlng] at h
theorem xw_setF (E : xE) (σ : xS) {i ci k : Nat} (v : Int32) (h : i < xN ∧ xcls i = ci) (h7 : ci < 7) (hk : xint ci k = true) : (xw E σ).set i (E.1 i, .inr (ci, (xfs E (σ.1 i) (σ.2 i) ci i).set k (.int v))) = xw E (xu σ i k v) :=
  xw_set E σ _ h.1 (by rw [xct, h.2, if_pos h7, xu_at, xfs_set E _ _ v i ci k hk]; rfl) (fun j hj => ⟨xu_ne σ k v hj, rfl⟩)
theorem xw_setL (E : xE) (σ : xS) {i ci k : Nat} (v : Int64) (h : i < xN ∧ xcls i = ci) (h7 : ci < 7) (hk : xlng ci k = true) : (xw E σ).set i (E.1 i, .inr (ci, (xfs E (σ.1 i) (σ.2 i) ci i).set k (.long v))) = xw E (xul σ i k v) :=
  xw_set E σ _ h.1 (by rw [xct, h.2, if_pos h7, xul_at, xfs_setl E _ _ v i ci k hk]; rfl) (fun j hj => ⟨rfl, xul_ne σ k v hj⟩)
/-- the addresses are apart, and in A -/
def xD (E : xE) (A : Nat → Prop) : Prop := (∀ i j, i < xN → j < xN → E.1 i = E.1 j → i = j) ∧ ∀ i, i < xN → A (E.1 i)
theorem xD.va {E : xE} {A : Nat → Prop} (h : xD E A) (σ : xS) : va_D A (xw E σ) := by
  have key : ∀ (i : Nat) (p : Nat × va_E), (xw E σ)[i]? = some p → i < xN ∧ p.1 = E.1 i := by
    intro i p hp
    by_cases hi : i < xN
    · rw [xw_get E σ hi] at hp
      cases hp
      exact ⟨hi, rfl⟩
    · simp [xw, hi] at hp
  refine ⟨fun i j p q hp hq e => ?_, fun k q hk => ?_⟩
  · obtain ⟨hi, h1⟩ := key i p hp
    obtain ⟨hj, h2⟩ := key j q hq
    exact h.1 i j hi hj (by rw [← h1, ← h2, e])
  · obtain ⟨hi, h1⟩ := key k q hk
    rw [h1]
    exact h.2 k hi
/-- what the methods of the world may write -/
def xA (E : xE) : Nat → Prop := fun q => ∃ i, i < xN ∧ q = E.1 i
def xtys (E : xE) : List (ClassId × FieldType) := [(E.2.2.1, .int), (E.2.2.2, .boolean)]
/-- the literals of the class: town promise hearer buyer buy keep days -/
def xsLen : List Nat := [4, 7, 6, 5, 3, 4, 4]
def xsByt : List (List Int32) := [[116, 111, 119, 110], [112, 114, 111, 109, 105, 115, 101], [104, 101, 97, 114, 101, 114], [98, 117, 121, 101, 114], [98, 117, 121], [107, 101, 101, 112], [100, 97, 121, 115]]
def xsTxt : List String := ["town", "promise", "hearer", "buyer", "buy", "keep", "days"]
/-- what is read and never written: the literals, two statics of the JDK -/
def xX (E : xE) (A : Nat → Prop) (U : State) (H : Heap) : Prop :=
  vk_S 7 xsLen xsByt (fun i => E.1 (1000 + i)) (fun i => E.1 (1100 + i)) A U H ∧ (∀ i, i < 7 → vk_R "PledgeWindow$Reader" (146 + 2 * i) (xsTxt.getD i "") (E.1 (1000 + i)) U) ∧
  va_Z "java/lang/String" "COMPACT_STRINGS" "Z" (.int 1) A U H ∧ va_Zq "jdk/internal/util/Preconditions" "SIOOBE_FORMATTER" "Ljava/util/function/BiFunction;" A U H
theorem xX.kept {E : xE} {A : Nat → Prop} {U : State} {H H1 : Heap} (h : xX E A U H) (hq : ∀ a : Nat, a < H.size → ¬ A a → H1[a]? = H[a]?) : xX E A U H1 := ⟨h.1.kept hq, h.2.1, h.2.2.1.kept hq, h.2.2.2.kept hq⟩
theorem xX.narrow {E : xE} {A B : Nat → Prop} {U : State} {H : Heap} (h : xX E A U H) (hAB : ∀ q, B q → A q) : xX E B U H := ⟨h.1.narrow hAB, h.2.1, h.2.2.1.narrow hAB, h.2.2.2.narrow hAB⟩
theorem xX.warm {E : xE} {A : Nat → Prop} {s U : State} {H : Heap} (hW : s.WarmedH U.vm) (h : xX E A s H) : xX E A U H := ⟨h.1.moved hW.alike, fun i hi => (h.2.1 i hi).warm hW, h.2.2.1.moved hW.alike, h.2.2.2.moved hW.alike⟩
theorem xX.same {E : xE} {A : Nat → Prop} {u U : State} {H : Heap} (hv : U.vm = u.vm) (h : xX E A u H) : xX E A U H := by
  have hal : u.vm.Alike U.vm := by rw [hv]; exact Vm.Alike.refl _
  exact ⟨h.1.moved hal, fun i hi => (h.2.1 i hi).same hv, h.2.2.1.moved hal, h.2.2.2.moved hal⟩
def xNst (U : State) : Prop := ∀ w ∈ xnest, va_Nw w U
theorem xNst.warm {s U : State} (hW : s.WarmedH U.vm) (h : xNst s) : xNst U := by
  intro w hw
  have h1 := h w hw
  have h2 := (List.mem_filter.mp hw).2
  cases w <;> first | (simp [x_isNest] at h2; done) | exact va_Nw.warmF hW h1 | exact va_Nw.warmM hW h1
theorem xNst.same {u U : State} (hv : u.vm = U.vm) (h : xNst u) : xNst U := by
  intro w hw
  have h1 := h w hw
  have h2 := (List.mem_filter.mp hw).2
  cases w <;> first | (simp [x_isNest] at h2; done) | exact va_Nw.same rfl hv h1
theorem xK.same {E : xE} {u U : State} (hv : u.vm = U.vm) (h : va_K E.2.1 vwCl (xtys E) u) : va_K E.2.1 vwCl (xtys E) U := va_K.moved (by rw [hv]; exact Vm.Alike.refl _) h
/-! ===== locals ===== -/
abbrev xL : Type := List (Option Value)
def xll : Nat → xL → List (Nat × Value)
  | _, [] => []
  | i, none :: t => xll (i + 1) t
  | i, some v :: t => (i, v) :: xll (i + 1) t
theorem xll_mem : ∀ (l : xL) (i j : Nat) (v : Value), (j, v) ∈ xll i l ↔ ∃ k, j = i + k ∧ l[k]? = some (some v) := by
  intro l
  induction l with
  | nil => intro i j v; simp [xll]
  | cons a t ih =>
    intro i j v
    have step : (j, v) ∈ xll (i + 1) t ↔ ∃ k, j = i + (k + 1) ∧ (a :: t)[k + 1]? = some (some v) := by
      rw [ih]
      constructor
      · rintro ⟨k, h1, h2⟩; exact ⟨k, by omega, by simpa using h2⟩
      · rintro ⟨k, h1, h2⟩; exact ⟨k, by omega, by simpa using h2⟩
    cases a with
    | none =>
      rw [xll, step]
      constructor
      · rintro ⟨k, h1, h2⟩; exact ⟨k + 1, h1, h2⟩
      · rintro ⟨k, h1, h2⟩
        cases k with
        | zero => simp at h2
        | succ k => exact ⟨k, h1, h2⟩
    | some w =>
      rw [xll, List.mem_cons, step]
      constructor
      · rintro (h | ⟨k, h1, h2⟩)
        · cases h; exact ⟨0, rfl, rfl⟩
        · exact ⟨k + 1, h1, h2⟩
      · rintro ⟨k, h1, h2⟩
        cases k with
        | zero => left; simp at h2; rw [h1, ← h2]; rfl
        | succ k => right; exact ⟨k, h1, h2⟩
def xR (ls : Array Slot) (nL : Nat) (l : xL) : Prop := lv_has ls nL (xll 0 l) ∧ l.length = nL
theorem xR.get {ls : Array Slot} {nL : Nat} {l : xL} (h : xR ls nL l) {i : Nat} {v : Value} (hi : l[i]? = some (some v)) : ls[i]? = some (.val v) :=
  h.1.2.2 (i, v) ((xll_mem l 0 i v).mpr ⟨i, by omega, hi⟩)
theorem xR.setI {ls ls' : Array Slot} {nL : Nat} {l : xL} (h : xR ls nL l) {i : Nat} (v : Value) (hi : i < l.length) (hp : ∀ w, i ≠ 0 → l[i - 1]? = some (some w) → w.category ≠ 2)
    (h' : lv_has ls' nL ((i, v) :: (xll 0 l).filter (fun q => !(q.1 == i) && !(q.1 + 1 == i && q.2.category == 2)))) : xR ls' nL (l.set i (some v)) := by
  refine ⟨⟨h'.1, h'.2.1, ?_⟩, by rw [List.length_set]; exact h.2⟩
  rintro ⟨j, w⟩ hq
  obtain ⟨k, hk, hw⟩ := (xll_mem _ 0 j w).mp hq
  have hjk : j = k := by omega
  subst hjk
  apply h'.2.2
  rw [List.getElem?_set] at hw
  by_cases hij : i = j
  · subst hij
    rw [if_pos rfl, if_pos hi] at hw
    simp at hw
    rw [hw]
    exact List.mem_cons_self
  · rw [if_neg hij] at hw
    refine List.mem_cons_of_mem _ (List.mem_filter.mpr ⟨(xll_mem l 0 j w).mpr ⟨j, by omega, hw⟩, ?_⟩)
    have h1 : (j == i) = false := by simp; omega
    by_cases h2 : j + 1 = i
    · have := hp w (by omega) (by rw [show i - 1 = j by omega]; exact hw)
      have h3 : (w.category == 2) = false := by simpa using this
      simp [h1, h3]
    · have h3 : (j + 1 == i) = false := by simpa using h2
      simp [h1, h3]
theorem xR.setL {ls ls' : Array Slot} {nL : Nat} {l : xL} (h : xR ls nL l) {i : Nat} (v : Value) (hi : i + 1 < l.length) (hp : ∀ w, i ≠ 0 → l[i - 1]? = some (some w) → w.category ≠ 2)
    (h' : lv_has ls' nL ((i, v) :: (xll 0 l).filter (fun q => !(q.1 == i) && (!(q.1 == i + 1) && !(q.1 + 1 == i && q.2.category == 2))))) : xR ls' nL ((l.set i (some v)).set (i + 1) none) := by
  refine ⟨⟨h'.1, h'.2.1, ?_⟩, by rw [List.length_set, List.length_set]; exact h.2⟩
  rintro ⟨j, w⟩ hq
  obtain ⟨k, hk, hw⟩ := (xll_mem _ 0 j w).mp hq
  have hjk : j = k := by omega
  subst hjk
  apply h'.2.2
  rw [List.getElem?_set] at hw
  by_cases hij : i + 1 = j
  · rw [if_pos hij] at hw
    simp [hi] at hw
  · rw [if_neg hij, List.getElem?_set] at hw
    by_cases hij2 : i = j
    · subst hij2
      rw [if_pos rfl, if_pos (by omega)] at hw
      simp at hw
      rw [hw]
      exact List.mem_cons_self
    · rw [if_neg hij2] at hw
      refine List.mem_cons_of_mem _ (List.mem_filter.mpr ⟨(xll_mem l 0 j w).mpr ⟨j, by omega, hw⟩, ?_⟩)
      have h1 : (j == i) = false := by simp; omega
      have h4 : (j == i + 1) = false := by simp; omega
      by_cases h2 : j + 1 = i
      · have := hp w (by omega) (by rw [show i - 1 = j by omega]; exact hw)
        have h3 : (w.category == 2) = false := by simpa using this
        simp [h1, h3, h4]
      · have h3 : (j + 1 == i) = false := by simpa using h2
        simp [h1, h3, h4]
/-! ===== Ev ===== -/
/-- the method that runs, its code, the tables -/
def xC (E : xE) (own : String) (cc : ByteArray) (nL : Nat) (p : Program) (s : State) (m : MethodId) (args : Array Value) (c : Code) : Prop :=
  p.tables.exec = Jvm.exec ∧ c.code = cc ∧ c.maxLocals = nL ∧ s.vm.findClass own = some m.cls ∧ (∀ w ∈ xtbl, w.before args s = true) ∧ va_K E.2.1 vwCl (xtys E) s ∧ xNst s
/-- at pc stands a return of v -/
def xRet (cc : ByteArray) (pc : Nat) (v : Option Value) : Prop :=
  (∃ x, v = some (.int x) ∧ decode cc pc = .ok (.ireturn, 1)) ∨ (∃ x, v = some (.long x) ∧ decode cc pc = .ok (.lreturn, 1)) ∨ (v = none ∧ decode cc pc = .ok (.return_, 1)) ∨ (∃ a, v = some (.ref a) ∧ decode cc pc = .ok (.areturn, 1))
def Ev (E : xE) (R : Room) (own : String) (cc : ByteArray) (nL : Nat) (Fin : Option Value → xS → Prop) (pc : Nat) (l : xL) (st : List Value) (σ : xS) : Prop :=
  ∀ (p : Program) (l0 : Launch) (e : Env) (s : State) (m : MethodId) (args : Array Value) (below : List Frame) (meth : Method) (c : Code) (A : Nat → Prop) (cells slots : Nat) (Q : State → Prop) (H : Heap) (locs : List Loc) (ls : Array Slot),
    xC E own cc nL p s m args c → (cells ≤ R.cells ∧ slots ≤ R.slots) → xD E A → xX E A s s.heap →
    (∀ (v : Option Value) (σ' : xS) (H' : Heap) (locs' : List Loc) (ls' : Array Slot) (pc' : Nat), Fin v σ' → xRet cc pc' v → va_P E.2.1 vwCl (xw E σ') H' → va_S A s.heap H' locs' → W p l0 e R s m args below meth c H' locs' cells slots Q (F0 m pc' ls' v.toList)) →
    va_P E.2.1 vwCl (xw E σ) H → va_S A s.heap H locs → xR ls nL l → W p l0 e R s m args below meth c H locs cells slots Q (F0 m pc ls st)
theorem Ev.mono {E : xE} {R : Room} {own : String} {cc : ByteArray} {nL : Nat} {F G : Option Value → xS → Prop} {pc : Nat} {l : xL} {st : List Value} {σ : xS} (h : ∀ v σ', F v σ' → G v σ') (k : Ev E R own cc nL F pc l st σ) : Ev E R own cc nL G pc l st σ :=
  fun p l0 e s m args below meth c A cells slots Q H locs ls C hc hA hX hf hP hS hL => k p l0 e s m args below meth c A cells slots Q H locs ls C hc hA hX (fun v σ' H' locs' ls' pc' hv => hf v σ' H' locs' ls' pc' (h v σ' hv)) hP hS hL
/-- more is known of the locals than is wanted -/
theorem Ev.forget {E : xE} {R : Room} {own : String} {cc : ByteArray} {nL : Nat} {F : Option Value → xS → Prop} {pc : Nat} {l l' : xL} {st : List Value} {σ : xS} (h : l'.length = l.length ∧ ∀ (i : Nat) (v : Value), l'[i]? = some (some v) → l[i]? = some (some v)) (k : Ev E R own cc nL F pc l' st σ) : Ev E R own cc nL F pc l st σ := by
  intro p l0 e s m args below meth c A cells slots Q H locs ls C hc hA hX hf hP hS hL
  refine k p l0 e s m args below meth c A cells slots Q H locs ls C hc hA hX hf hP hS ⟨⟨hL.1.1, hL.1.2.1, ?_⟩, h.1.trans hL.2⟩
  rintro ⟨j, w⟩ hq
  obtain ⟨i, h1, h2⟩ := (xll_mem _ 0 j w).mp hq
  exact hL.1.2.2 _ ((xll_mem _ 0 j w).mpr ⟨i, h1, h.2 i w h2⟩)
def rm (d : Nat) : Room := { frames := d, cells := 0, slots := 0, locals := 200 * d }
def xPre (E : xE) (σ : xS) (U : State) : Prop := va_P E.2.1 vwCl (xw E σ) U.heap ∧ va_K E.2.1 vwCl (xtys E) U ∧ xD E (xA E) ∧ xNst U ∧ xX E (xA E) U U.heap
def xPost (E : xE) (r : Option Value) (σ' : xS) : Array Value → State → Outcome → State → Prop := fun _ st o t => (o = .returned r ∧ va_P E.2.1 vwCl (xw E σ') t.heap) ∧ va_F (xA E) st t
/-- THE CONTRACT: called with these arguments where the world is σ, y answers r, and the world is σ' -/
def Ct (E : xE) (d : Nat) (y : MethodName) (cc : ByteArray) (nL : Nat) (ret : Option FieldType) (as : List Value) (σ : xS) (r : Option Value) (σ' : xS) : Prop :=
  ∀ l : Launch, Met l y (Cond.code y cc nL ret :: xtbl) (rm d) (va_Pc as (xPre E σ)) (xPost E r σ') 0 0 (xA E)
theorem Ct.eq {E : xE} {d : Nat} {y : MethodName} {cc : ByteArray} {nL : Nat} {ret : Option FieldType} {as : List Value} {σ : xS} {r r2 : Option Value} {σ1 σ2 : xS} (h : Ct E d y cc nL ret as σ r σ1) (h1 : r = r2) (h2 : σ1 = σ2) : Ct E d y cc nL ret as σ r2 σ2 := h1 ▸ h2 ▸ h
theorem xPc_blind {E : xE} {σ : xS} {as : List Value} : FrameBlind (va_Pc as (xPre E σ)) := fun a U g mk q => ⟨q.1, q.2.1, xK.same (u := U) (U := U.calling g mk a) rfl q.2.2.1, q.2.2.2.1, xNst.same (u := U) (U := U.calling g mk a) rfl q.2.2.2.2.1, xX.same (u := U) (U := U.calling g mk a) rfl q.2.2.2.2.2⟩
/-- what a method returns, as its type has it -/
def xNar (ret : Option FieldType) (r : Option Value) : Prop := match r with
  | none => ret = none
  | some (.int x) => ∃ ty, ret = some ty ∧ narrow ty (.int x) = .int x
  | some (.long _) => ret = some .long
  | some (.ref _) => ∃ ty, ret = some ty ∧ ((∃ n, ty = .object n) ∨ ∃ t, ty = .array t)
  | _ => False
/-- locals at the entry -/
def xent (as : List Value) (n : Nat) : xL :=
  let l : xL := as.flatMap (fun v => if v.category = 2 then [some v, none] else [some v])
  l ++ List.replicate (n - l.length) none
theorem xent_args : ∀ (as : List Value) (i j : Nat) (v : Value) (pad : xL), (∀ (k : Nat) (w : Value), pad[k]? = some (some w) → False) → (j, v) ∈ xll i (as.flatMap (fun v => if v.category = 2 then [some v, none] else [some v]) ++ pad) → (j, v) ∈ lv_args i as := by
  intro as
  induction as with
  | nil =>
    intro i j v pad hp h
    obtain ⟨k, h1, h2⟩ := (xll_mem _ i j v).mp h
    simp at h2
    exact (hp k v h2).elim
  | cons a t ih =>
    intro i j v pad hp h
    by_cases hc : a.category = 2
    · rw [List.flatMap_cons, if_pos hc] at h
      simp only [List.cons_append, List.nil_append, xll] at h
      rw [lv_args, hc]
      rcases List.mem_cons.mp h with h | h
      · rw [h]; exact List.mem_cons_self
      · exact List.mem_cons_of_mem _ (ih _ _ _ _ hp h)
    · rw [List.flatMap_cons, if_neg hc] at h
      simp only [List.cons_append, List.nil_append, xll] at h
      have hc1 : a.category = 1 := by
        cases a <;> first | rfl | (exact absurd rfl hc)
      rw [lv_args, hc1]
      rcases List.mem_cons.mp h with h | h
      · rw [h]; exact List.mem_cons_self
      · exact List.mem_cons_of_mem _ (ih _ _ _ _ hp h)
theorem xent_len (as : List Value) (n : Nat) (h : (lg_sl as).length ≤ n) : (xent as n).length = n := by
  have e : (as.flatMap (fun v => if v.category = 2 then [some v, none] else [some v]) : xL).length = (lg_sl as).length := by
    clear h
    induction as with
    | nil => rfl
    | cons a t ih =>
      rw [lg_sl] at ih ⊢
      rw [List.flatMap_cons, List.flatMap_cons, List.length_append, List.length_append, ih]
      by_cases hc : a.category = 2 <;> simp [hc]
  simp only [xent, List.length_append, List.length_replicate, e]
  omega
set_option maxHeartbeats 4000000 in
/-- a contract out of a walk of the body -/
theorem Ct.of {E : xE} {d : Nat} {y : MethodName} {cc : ByteArray} {nL : Nat} {ret : Option FieldType} {as : List Value} {σ σ' : xS} {r : Option Value} (hy : plainName y.cls = true) (hn : (lg_sl as).length ≤ nL) (hr : xNar ret r)
    (k : Ev E (rm d) y.cls cc nL (fun v t => v = r ∧ t = σ') 0 (xent as nL) [] σ) : Ct E d y cc nL ret as σ r σ' := by
  intro l
  refine Met.ofW (cc := cc) (maxL := nL) (ret := ret) hy rfl ?_
  intro p e s m args below meth c s₁ B hml hv
  obtain ⟨rfl, hP, hK, hD, hN, hX⟩ := hv
  have hx := B.exec
  have hb := B.bytes
  have hret := B.returns
  have hts := atoms_spec (ws := Cond.code y cc nL ret :: xtbl) B.pre
  have hown : s.vm.findClass y.cls = some m.cls := findClass_of_methodNamed B.named
  have hlocks := B.notSynchronized
  have hl := lv_entry as (n := nL) hn
  rw [lg_entry_eq]
  generalize (lg_sl as ++ List.replicate (nL - (lg_sl as).length) Slot.unset).toArray = ls at hl ⊢
  refine k p l e s m as.toArray below meth c (xA E) 0 0 _ s.heap [] ls ⟨hx, hb, hml, hown, fun w hw => hts w (List.mem_cons_of_mem _ hw), hK, hN⟩ ⟨Nat.zero_le _, Nat.zero_le _⟩ hD hX ?_ hP va_S.rf ⟨⟨hl.1, hl.2.1, ?_⟩, xent_len as nL hn⟩
  · rintro v t H' locs' ls' pc' ⟨rfl, rfl⟩ hR hP' hS'
    rcases hR with ⟨x, rfl, hd⟩ | ⟨x, rfl, hd⟩ | ⟨rfl, hd⟩ | ⟨a, rfl, hd⟩
    · obtain ⟨ty, h1, h2⟩ := hr
      exact W.zret (v := x) hx hb (hret.trans h1) h2 (fun t ht _ => ⟨⟨rfl, by rw [ht]; exact hP'⟩, hS'.F ht⟩) hS'.2.2 hd
    · exact W.lret (v := x) hx hb (hret.trans hr) (fun t ht _ => ⟨⟨rfl, by rw [ht]; exact hP'⟩, hS'.F ht⟩) hS'.2.2 hd
    · exact W.vret hx hb (hret.trans hr) (fun t ht _ => ⟨⟨rfl, by rw [ht]; exact hP'⟩, hS'.F ht⟩) hS'.2.2 hd
    · obtain ⟨ty, h1, h2⟩ := hr
      exact W.aret (v := .ref a) hx hb (hret.trans h1) h2 (Or.inr ⟨a, rfl⟩) (fun t ht _ => ⟨⟨rfl, by rw [ht]; exact hP'⟩, hS'.F ht⟩) hS'.2.2 hd
  · rintro ⟨j, v⟩ hq
    refine hl.2.2 _ (xent_args as 0 j v (List.replicate (nL - (as.flatMap (fun v => if v.category = 2 then [some v, none] else [some v]) : xL).length) none) (fun k w h => ?_) hq)
    have := List.mem_of_getElem? h
    simp at this
end
section
section
variable {E : xE} {R : Room} {own : String} {cc : ByteArray} {nL : Nat} {F : Option Value → xS → Prop} {pc : Nat} {l : xL} {st : List Value} {σ : xS}
theorem ev_iadd {x y : Int32} (d : decode cc pc = .ok (.iadd, 1)) (k : Ev E R own cc nL F (pc + 1) l (.int (x + y) :: st) σ) : Ev E R own cc nL F pc l (.int y :: .int x :: st) σ := by
  intro p l0 e s m args below meth c A cells slots Q H locs ls C hc hA hX hf hP hS hL
  exact lv_iadd C.1 C.2.1 d  (k p l0 e s m args below meth c A cells slots Q H locs ls C hc hA hX hf hP hS hL)
theorem ev_isub {x y : Int32} (d : decode cc pc = .ok (.isub, 1)) (k : Ev E R own cc nL F (pc + 1) l (.int (x - y) :: st) σ) : Ev E R own cc nL F pc l (.int y :: .int x :: st) σ := by
  intro p l0 e s m args below meth c A cells slots Q H locs ls C hc hA hX hf hP hS hL
  exact lv_isub C.1 C.2.1 d  (k p l0 e s m args below meth c A cells slots Q H locs ls C hc hA hX hf hP hS hL)
theorem ev_imul {x y : Int32} (d : decode cc pc = .ok (.imul, 1)) (k : Ev E R own cc nL F (pc + 1) l (.int (x * y) :: st) σ) : Ev E R own cc nL F pc l (.int y :: .int x :: st) σ := by
  intro p l0 e s m args below meth c A cells slots Q H locs ls C hc hA hX hf hP hS hL
  exact lv_imul C.1 C.2.1 d  (k p l0 e s m args below meth c A cells slots Q H locs ls C hc hA hX hf hP hS hL)
theorem ev_iand {x y : Int32} (d : decode cc pc = .ok (.iand, 1)) (k : Ev E R own cc nL F (pc + 1) l (.int (x &&& y) :: st) σ) : Ev E R own cc nL F pc l (.int y :: .int x :: st) σ := by
  intro p l0 e s m args below meth c A cells slots Q H locs ls C hc hA hX hf hP hS hL
  exact lv_iand C.1 C.2.1 d  (k p l0 e s m args below meth c A cells slots Q H locs ls C hc hA hX hf hP hS hL)
theorem ev_ior {x y : Int32} (d : decode cc pc = .ok (.ior, 1)) (k : Ev E R own cc nL F (pc + 1) l (.int (x ||| y) :: st) σ) : Ev E R own cc nL F pc l (.int y :: .int x :: st) σ := by
  intro p l0 e s m args below meth c A cells slots Q H locs ls C hc hA hX hf hP hS hL
  exact lv_ior C.1 C.2.1 d  (k p l0 e s m args below meth c A cells slots Q H locs ls C hc hA hX hf hP hS hL)
theorem ev_ixor {x y : Int32} (d : decode cc pc = .ok (.ixor, 1)) (k : Ev E R own cc nL F (pc + 1) l (.int (x ^^^ y) :: st) σ) : Ev E R own cc nL F pc l (.int y :: .int x :: st) σ := by
  intro p l0 e s m args below meth c A cells slots Q H locs ls C hc hA hX hf hP hS hL
  exact lv_ixor C.1 C.2.1 d  (k p l0 e s m args below meth c A cells slots Q H locs ls C hc hA hX hf hP hS hL)
theorem ev_ishl {x y : Int32} (d : decode cc pc = .ok (.ishl, 1)) (k : Ev E R own cc nL F (pc + 1) l (.int (x <<< (y &&& 31)) :: st) σ) : Ev E R own cc nL F pc l (.int y :: .int x :: st) σ := by
  intro p l0 e s m args below meth c A cells slots Q H locs ls C hc hA hX hf hP hS hL
  exact lv_ishl C.1 C.2.1 d  (k p l0 e s m args below meth c A cells slots Q H locs ls C hc hA hX hf hP hS hL)
theorem ev_ishr {x y : Int32} (d : decode cc pc = .ok (.ishr, 1)) (k : Ev E R own cc nL F (pc + 1) l (.int (x >>> (y &&& 31)) :: st) σ) : Ev E R own cc nL F pc l (.int y :: .int x :: st) σ := by
  intro p l0 e s m args below meth c A cells slots Q H locs ls C hc hA hX hf hP hS hL
  exact lv_ishr C.1 C.2.1 d  (k p l0 e s m args below meth c A cells slots Q H locs ls C hc hA hX hf hP hS hL)
theorem ev_idiv {x y : Int32} (d : decode cc pc = .ok (.idiv, 1)) (h : ¬ y = 0) (k : Ev E R own cc nL F (pc + 1) l (.int (x / y) :: st) σ) : Ev E R own cc nL F pc l (.int y :: .int x :: st) σ := by
  intro p l0 e s m args below meth c A cells slots Q H locs ls C hc hA hX hf hP hS hL
  exact lv_idiv C.1 C.2.1 d h (k p l0 e s m args below meth c A cells slots Q H locs ls C hc hA hX hf hP hS hL)
theorem ev_irem {x y : Int32} (d : decode cc pc = .ok (.irem, 1)) (h : ¬ y = 0) (k : Ev E R own cc nL F (pc + 1) l (.int (x - x / y * y) :: st) σ) : Ev E R own cc nL F pc l (.int y :: .int x :: st) σ := by
  intro p l0 e s m args below meth c A cells slots Q H locs ls C hc hA hX hf hP hS hL
  exact lv_irem C.1 C.2.1 d h (k p l0 e s m args below meth c A cells slots Q H locs ls C hc hA hX hf hP hS hL)
theorem ev_iushr {x y : Int32} (d : decode cc pc = .ok (.iushr, 1)) (k : Ev E R own cc nL F (pc + 1) l (.int ((x.toUInt32 >>> (y.toUInt32 &&& Int32.toUInt32 31)).toInt32) :: st) σ) : Ev E R own cc nL F pc l (.int y :: .int x :: st) σ := by
  intro p l0 e s m args below meth c A cells slots Q H locs ls C hc hA hX hf hP hS hL
  exact lv_iushr C.1 C.2.1 d rfl (k p l0 e s m args below meth c A cells slots Q H locs ls C hc hA hX hf hP hS hL)
theorem ev_i2l {x : Int32} (d : decode cc pc = .ok (.i2l, 1)) (k : Ev E R own cc nL F (pc + 1) l (.long x.toInt64 :: st) σ) : Ev E R own cc nL F pc l (.int x :: st) σ := by
  intro p l0 e s m args below meth c A cells slots Q H locs ls C hc hA hX hf hP hS hL
  exact lv_i2l C.1 C.2.1 d rfl (k p l0 e s m args below meth c A cells slots Q H locs ls C hc hA hX hf hP hS hL)
theorem ev_l2i {x : Int64} (d : decode cc pc = .ok (.l2i, 1)) (k : Ev E R own cc nL F (pc + 1) l (.int x.toInt32 :: st) σ) : Ev E R own cc nL F pc l (.long x :: st) σ := by
  intro p l0 e s m args below meth c A cells slots Q H locs ls C hc hA hX hf hP hS hL
  exact lv_l2i C.1 C.2.1 d rfl (k p l0 e s m args below meth c A cells slots Q H locs ls C hc hA hX hf hP hS hL)
theorem ev_i2c {x : Int32} (d : decode cc pc = .ok (.i2c, 1)) (k : Ev E R own cc nL F (pc + 1) l (.int (x.toUInt32 % 65536).toInt32 :: st) σ) : Ev E R own cc nL F pc l (.int x :: st) σ := by
  intro p l0 e s m args below meth c A cells slots Q H locs ls C hc hA hX hf hP hS hL
  exact lv_i2c C.1 C.2.1 d rfl (k p l0 e s m args below meth c A cells slots Q H locs ls C hc hA hX hf hP hS hL)
theorem ev_ladd {x y : Int64} (d : decode cc pc = .ok (.ladd, 1)) (k : Ev E R own cc nL F (pc + 1) l (.long (x + y) :: st) σ) : Ev E R own cc nL F pc l (.long y :: .long x :: st) σ := by
  intro p l0 e s m args below meth c A cells slots Q H locs ls C hc hA hX hf hP hS hL
  exact lv_ladd C.1 C.2.1 d  (k p l0 e s m args below meth c A cells slots Q H locs ls C hc hA hX hf hP hS hL)
theorem ev_lsub {x y : Int64} (d : decode cc pc = .ok (.lsub, 1)) (k : Ev E R own cc nL F (pc + 1) l (.long (x - y) :: st) σ) : Ev E R own cc nL F pc l (.long y :: .long x :: st) σ := by
  intro p l0 e s m args below meth c A cells slots Q H locs ls C hc hA hX hf hP hS hL
  exact lv_lsub C.1 C.2.1 d  (k p l0 e s m args below meth c A cells slots Q H locs ls C hc hA hX hf hP hS hL)
theorem ev_lmul {x y : Int64} (d : decode cc pc = .ok (.lmul, 1)) (k : Ev E R own cc nL F (pc + 1) l (.long (x * y) :: st) σ) : Ev E R own cc nL F pc l (.long y :: .long x :: st) σ := by
  intro p l0 e s m args below meth c A cells slots Q H locs ls C hc hA hX hf hP hS hL
  exact lv_lmul C.1 C.2.1 d  (k p l0 e s m args below meth c A cells slots Q H locs ls C hc hA hX hf hP hS hL)
theorem ev_ldiv {x y : Int64} (d : decode cc pc = .ok (.ldiv, 1)) (h : ¬ y = 0) (k : Ev E R own cc nL F (pc + 1) l (.long (x / y) :: st) σ) : Ev E R own cc nL F pc l (.long y :: .long x :: st) σ := by
  intro p l0 e s m args below meth c A cells slots Q H locs ls C hc hA hX hf hP hS hL
  exact lv_ldiv C.1 C.2.1 d h (k p l0 e s m args below meth c A cells slots Q H locs ls C hc hA hX hf hP hS hL)
theorem ev_lrem {x y : Int64} (d : decode cc pc = .ok (.lrem, 1)) (h : ¬ y = 0) (k : Ev E R own cc nL F (pc + 1) l (.long (x - x / y * y) :: st) σ) : Ev E R own cc nL F pc l (.long y :: .long x :: st) σ := by
  intro p l0 e s m args below meth c A cells slots Q H locs ls C hc hA hX hf hP hS hL
  exact lv_lrem C.1 C.2.1 d h (k p l0 e s m args below meth c A cells slots Q H locs ls C hc hA hX hf hP hS hL)
theorem ev_lcmp {x y : Int64} (d : decode cc pc = .ok (.lcmp, 1)) (k : Ev E R own cc nL F (pc + 1) l (.int (lg_cmp x y) :: st) σ) : Ev E R own cc nL F pc l (.long y :: .long x :: st) σ := by
  intro p l0 e s m args below meth c A cells slots Q H locs ls C hc hA hX hf hP hS hL
  exact W.lcmp C.1 C.2.1 d  (k p l0 e s m args below meth c A cells slots Q H locs ls C hc hA hX hf hP hS hL)
theorem ev_dup {va : Value} (d : decode cc pc = .ok (.dup, 1)) (h : va.category = 1) (k : Ev E R own cc nL F (pc + 1) l (va :: va :: st) σ) : Ev E R own cc nL F pc l (va :: st) σ := by
  intro p l0 e s m args below meth c A cells slots Q H locs ls C hc hA hX hf hP hS hL
  exact lv_dup C.1 C.2.1 d h (k p l0 e s m args below meth c A cells slots Q H locs ls C hc hA hX hf hP hS hL)
theorem ev_pop {va : Value} (d : decode cc pc = .ok (.pop, 1)) (h : va.category = 1) (k : Ev E R own cc nL F (pc + 1) l (st) σ) : Ev E R own cc nL F pc l (va :: st) σ := by
  intro p l0 e s m args below meth c A cells slots Q H locs ls C hc hA hX hf hP hS hL
  exact lv_pop C.1 C.2.1 d h (k p l0 e s m args below meth c A cells slots Q H locs ls C hc hA hX hf hP hS hL)
theorem ev_dup2 {va vb : Value} (d : decode cc pc = .ok (.dup2, 1)) (h1 : va.category = 1) (h2 : vb.category = 1) (k : Ev E R own cc nL F (pc + 1) l (va :: vb :: va :: vb :: st) σ) : Ev E R own cc nL F pc l (va :: vb :: st) σ := by
  intro p l0 e s m args below meth c A cells slots Q H locs ls C hc hA hX hf hP hS hL
  exact lv_dup2_11 C.1 C.2.1 d h1 h2 (k p l0 e s m args below meth c A cells slots Q H locs ls C hc hA hX hf hP hS hL)
theorem ev_iconst_m1 (d : decode cc pc = .ok (.iconst (-1), 1)) (k : Ev E R own cc nL F (pc + 1) l (.int (-1) :: st) σ) : Ev E R own cc nL F pc l st σ := by
  intro p l0 e s m args below meth c A cells slots Q H locs ls C hc hA hX hf hP hS hL
  exact lv_iconst (v := -1) C.1 C.2.1 d rfl (k p l0 e s m args below meth c A cells slots Q H locs ls C hc hA hX hf hP hS hL)
theorem ev_iconst_0 (d : decode cc pc = .ok (.iconst (0), 1)) (k : Ev E R own cc nL F (pc + 1) l (.int (0) :: st) σ) : Ev E R own cc nL F pc l st σ := by
  intro p l0 e s m args below meth c A cells slots Q H locs ls C hc hA hX hf hP hS hL
  exact lv_iconst (v := 0) C.1 C.2.1 d rfl (k p l0 e s m args below meth c A cells slots Q H locs ls C hc hA hX hf hP hS hL)
theorem ev_iconst_1 (d : decode cc pc = .ok (.iconst (1), 1)) (k : Ev E R own cc nL F (pc + 1) l (.int (1) :: st) σ) : Ev E R own cc nL F pc l st σ := by
  intro p l0 e s m args below meth c A cells slots Q H locs ls C hc hA hX hf hP hS hL
  exact lv_iconst (v := 1) C.1 C.2.1 d rfl (k p l0 e s m args below meth c A cells slots Q H locs ls C hc hA hX hf hP hS hL)
theorem ev_iconst_2 (d : decode cc pc = .ok (.iconst (2), 1)) (k : Ev E R own cc nL F (pc + 1) l (.int (2) :: st) σ) : Ev E R own cc nL F pc l st σ := by
  intro p l0 e s m args below meth c A cells slots Q H locs ls C hc hA hX hf hP hS hL
  exact lv_iconst (v := 2) C.1 C.2.1 d rfl (k p l0 e s m args below meth c A cells slots Q H locs ls C hc hA hX hf hP hS hL)
theorem ev_iconst_3 (d : decode cc pc = .ok (.iconst (3), 1)) (k : Ev E R own cc nL F (pc + 1) l (.int (3) :: st) σ) : Ev E R own cc nL F pc l st σ := by
  intro p l0 e s m args below meth c A cells slots Q H locs ls C hc hA hX hf hP hS hL
  exact lv_iconst (v := 3) C.1 C.2.1 d rfl (k p l0 e s m args below meth c A cells slots Q H locs ls C hc hA hX hf hP hS hL)
theorem ev_iconst_4 (d : decode cc pc = .ok (.iconst (4), 1)) (k : Ev E R own cc nL F (pc + 1) l (.int (4) :: st) σ) : Ev E R own cc nL F pc l st σ := by
  intro p l0 e s m args below meth c A cells slots Q H locs ls C hc hA hX hf hP hS hL
  exact lv_iconst (v := 4) C.1 C.2.1 d rfl (k p l0 e s m args below meth c A cells slots Q H locs ls C hc hA hX hf hP hS hL)
theorem ev_iconst_5 (d : decode cc pc = .ok (.iconst (5), 1)) (k : Ev E R own cc nL F (pc + 1) l (.int (5) :: st) σ) : Ev E R own cc nL F pc l st σ := by
  intro p l0 e s m args below meth c A cells slots Q H locs ls C hc hA hX hf hP hS hL
  exact lv_iconst (v := 5) C.1 C.2.1 d rfl (k p l0 e s m args below meth c A cells slots Q H locs ls C hc hA hX hf hP hS hL)
theorem ev_lconst_0 (d : decode cc pc = .ok (.lconst 0, 1)) (k : Ev E R own cc nL F (pc + 1) l (.long 0 :: st) σ) : Ev E R own cc nL F pc l st σ := by
  intro p l0 e s m args below meth c A cells slots Q H locs ls C hc hA hX hf hP hS hL
  exact lv_lconst (v := 0) C.1 C.2.1 d rfl (k p l0 e s m args below meth c A cells slots Q H locs ls C hc hA hX hf hP hS hL)
theorem ev_lconst_1 (d : decode cc pc = .ok (.lconst 1, 1)) (k : Ev E R own cc nL F (pc + 1) l (.long 1 :: st) σ) : Ev E R own cc nL F pc l st σ := by
  intro p l0 e s m args below meth c A cells slots Q H locs ls C hc hA hX hf hP hS hL
  exact lv_lconst (v := 1) C.1 C.2.1 d rfl (k p l0 e s m args below meth c A cells slots Q H locs ls C hc hA hX hf hP hS hL)
theorem ev_bipush {n : Int} (v : Int32) (d : decode cc pc = .ok (.bipush n, 2)) (hv : (Int8.ofInt n).toInt32 = v) (k : Ev E R own cc nL F (pc + 2) l (.int v :: st) σ) : Ev E R own cc nL F pc l st σ := by
  intro p l0 e s m args below meth c A cells slots Q H locs ls C hc hA hX hf hP hS hL
  exact lv_bipush C.1 C.2.1 d hv (k p l0 e s m args below meth c A cells slots Q H locs ls C hc hA hX hf hP hS hL)
theorem ev_sipush {n : Int} (v : Int32) (d : decode cc pc = .ok (.sipush n, 3)) (hv : (Int16.ofInt n).toInt32 = v) (k : Ev E R own cc nL F (pc + 3) l (.int v :: st) σ) : Ev E R own cc nL F pc l st σ := by
  intro p l0 e s m args below meth c A cells slots Q H locs ls C hc hA hX hf hP hS hL
  exact lv_sipush C.1 C.2.1 d hv (k p l0 e s m args below meth c A cells slots Q H locs ls C hc hA hX hf hP hS hL)
theorem ev_ldc {idx : Nat} {v : Int32} (d : decode cc pc = .ok (.ldc idx, 2)) (w : Cond.constant own idx v ∈ xtbl) (k : Ev E R own cc nL F (pc + 2) l (.int v :: st) σ) : Ev E R own cc nL F pc l st σ := by
  intro p l0 e s m args below meth c A cells slots Q H locs ls C hc hA hX hf hP hS hL
  exact lv_ldc C.1 C.2.1 C.2.2.2.1 (C.2.2.2.2.1 _ w) d (k p l0 e s m args below meth c A cells slots Q H locs ls C hc hA hX hf hP hS hL)
theorem ev_ldc_w {idx : Nat} {v : Int32} (d : decode cc pc = .ok (.ldc_w idx, 3)) (w : Cond.constant own idx v ∈ xtbl) (k : Ev E R own cc nL F (pc + 3) l (.int v :: st) σ) : Ev E R own cc nL F pc l st σ := by
  intro p l0 e s m args below meth c A cells slots Q H locs ls C hc hA hX hf hP hS hL
  exact lv_ldcw C.1 C.2.1 C.2.2.2.1 (C.2.2.2.2.1 _ w) d (k p l0 e s m args below meth c A cells slots Q H locs ls C hc hA hX hf hP hS hL)
theorem ev_ldc2_w {idx : Nat} {v : Int64} (d : decode cc pc = .ok (.ldc2_w idx, 3)) (w : Cond.constantLong own idx v ∈ xtbl) (k : Ev E R own cc nL F (pc + 3) l (.long v :: st) σ) : Ev E R own cc nL F pc l st σ := by
  intro p l0 e s m args below meth c A cells slots Q H locs ls C hc hA hX hf hP hS hL
  exact lv_ldc2 C.1 C.2.1 C.2.2.2.1 (C.2.2.2.2.1 _ w) d (k p l0 e s m args below meth c A cells slots Q H locs ls C hc hA hX hf hP hS hL)
theorem ev_icmp_eq {x y : Int32} {off : Int} (tgt : Nat) (d : decode cc pc = .ok (.if_icmp .eq off, 3)) (ht : (pc : Int) + off = (tgt : Int)) (kt : x = y → Ev E R own cc nL F tgt l st σ) (kf : ¬ x = y → Ev E R own cc nL F (pc + 3) l st σ) : Ev E R own cc nL F pc l (.int y :: .int x :: st) σ := by
  intro p l0 e s m args below meth c A cells slots Q H locs ls C hc hA hX hf hP hS hL
  exact lv_icmp_eq C.1 C.2.1 d ht (fun h => kt h p l0 e s m args below meth c A cells slots Q H locs ls C hc hA hX hf hP hS hL) (fun h => kf h p l0 e s m args below meth c A cells slots Q H locs ls C hc hA hX hf hP hS hL)
theorem ev_icmp_ne {x y : Int32} {off : Int} (tgt : Nat) (d : decode cc pc = .ok (.if_icmp .ne off, 3)) (ht : (pc : Int) + off = (tgt : Int)) (kt : ¬ x = y → Ev E R own cc nL F tgt l st σ) (kf : x = y → Ev E R own cc nL F (pc + 3) l st σ) : Ev E R own cc nL F pc l (.int y :: .int x :: st) σ := by
  intro p l0 e s m args below meth c A cells slots Q H locs ls C hc hA hX hf hP hS hL
  exact lv_icmp_ne C.1 C.2.1 d ht (fun h => kt h p l0 e s m args below meth c A cells slots Q H locs ls C hc hA hX hf hP hS hL) (fun h => kf h p l0 e s m args below meth c A cells slots Q H locs ls C hc hA hX hf hP hS hL)
theorem ev_icmp_lt {x y : Int32} {off : Int} (tgt : Nat) (d : decode cc pc = .ok (.if_icmp .lt off, 3)) (ht : (pc : Int) + off = (tgt : Int)) (kt : x < y → Ev E R own cc nL F tgt l st σ) (kf : ¬ x < y → Ev E R own cc nL F (pc + 3) l st σ) : Ev E R own cc nL F pc l (.int y :: .int x :: st) σ := by
  intro p l0 e s m args below meth c A cells slots Q H locs ls C hc hA hX hf hP hS hL
  exact lv_icmp_lt C.1 C.2.1 d ht (fun h => kt h p l0 e s m args below meth c A cells slots Q H locs ls C hc hA hX hf hP hS hL) (fun h => kf h p l0 e s m args below meth c A cells slots Q H locs ls C hc hA hX hf hP hS hL)
theorem ev_icmp_ge {x y : Int32} {off : Int} (tgt : Nat) (d : decode cc pc = .ok (.if_icmp .ge off, 3)) (ht : (pc : Int) + off = (tgt : Int)) (kt : y ≤ x → Ev E R own cc nL F tgt l st σ) (kf : ¬ y ≤ x → Ev E R own cc nL F (pc + 3) l st σ) : Ev E R own cc nL F pc l (.int y :: .int x :: st) σ := by
  intro p l0 e s m args below meth c A cells slots Q H locs ls C hc hA hX hf hP hS hL
  exact lv_icmp_ge C.1 C.2.1 d ht (fun h => kt h p l0 e s m args below meth c A cells slots Q H locs ls C hc hA hX hf hP hS hL) (fun h => kf h p l0 e s m args below meth c A cells slots Q H locs ls C hc hA hX hf hP hS hL)
theorem ev_icmp_gt {x y : Int32} {off : Int} (tgt : Nat) (d : decode cc pc = .ok (.if_icmp .gt off, 3)) (ht : (pc : Int) + off = (tgt : Int)) (kt : y < x → Ev E R own cc nL F tgt l st σ) (kf : ¬ y < x → Ev E R own cc nL F (pc + 3) l st σ) : Ev E R own cc nL F pc l (.int y :: .int x :: st) σ := by
  intro p l0 e s m args below meth c A cells slots Q H locs ls C hc hA hX hf hP hS hL
  exact lv_icmp_gt C.1 C.2.1 d ht (fun h => kt h p l0 e s m args below meth c A cells slots Q H locs ls C hc hA hX hf hP hS hL) (fun h => kf h p l0 e s m args below meth c A cells slots Q H locs ls C hc hA hX hf hP hS hL)
theorem ev_icmp_le {x y : Int32} {off : Int} (tgt : Nat) (d : decode cc pc = .ok (.if_icmp .le off, 3)) (ht : (pc : Int) + off = (tgt : Int)) (kt : x ≤ y → Ev E R own cc nL F tgt l st σ) (kf : ¬ x ≤ y → Ev E R own cc nL F (pc + 3) l st σ) : Ev E R own cc nL F pc l (.int y :: .int x :: st) σ := by
  intro p l0 e s m args below meth c A cells slots Q H locs ls C hc hA hX hf hP hS hL
  exact lv_icmp_le C.1 C.2.1 d ht (fun h => kt h p l0 e s m args below meth c A cells slots Q H locs ls C hc hA hX hf hP hS hL) (fun h => kf h p l0 e s m args below meth c A cells slots Q H locs ls C hc hA hX hf hP hS hL)
theorem ev_if_eq {x : Int32} {off : Int} (tgt : Nat) (d : decode cc pc = .ok (.ifCond .eq off, 3)) (ht : (pc : Int) + off = (tgt : Int)) (kt : x = 0 → Ev E R own cc nL F tgt l st σ) (kf : ¬ x = 0 → Ev E R own cc nL F (pc + 3) l st σ) : Ev E R own cc nL F pc l (.int x :: st) σ := by
  intro p l0 e s m args below meth c A cells slots Q H locs ls C hc hA hX hf hP hS hL
  exact lv_if_eq C.1 C.2.1 d ht (fun h => kt h p l0 e s m args below meth c A cells slots Q H locs ls C hc hA hX hf hP hS hL) (fun h => kf h p l0 e s m args below meth c A cells slots Q H locs ls C hc hA hX hf hP hS hL)
theorem ev_if_ne {x : Int32} {off : Int} (tgt : Nat) (d : decode cc pc = .ok (.ifCond .ne off, 3)) (ht : (pc : Int) + off = (tgt : Int)) (kt : ¬ x = 0 → Ev E R own cc nL F tgt l st σ) (kf : x = 0 → Ev E R own cc nL F (pc + 3) l st σ) : Ev E R own cc nL F pc l (.int x :: st) σ := by
  intro p l0 e s m args below meth c A cells slots Q H locs ls C hc hA hX hf hP hS hL
  exact lv_if_ne C.1 C.2.1 d ht (fun h => kt h p l0 e s m args below meth c A cells slots Q H locs ls C hc hA hX hf hP hS hL) (fun h => kf h p l0 e s m args below meth c A cells slots Q H locs ls C hc hA hX hf hP hS hL)
theorem ev_if_lt {x : Int32} {off : Int} (tgt : Nat) (d : decode cc pc = .ok (.ifCond .lt off, 3)) (ht : (pc : Int) + off = (tgt : Int)) (kt : x < 0 → Ev E R own cc nL F tgt l st σ) (kf : ¬ x < 0 → Ev E R own cc nL F (pc + 3) l st σ) : Ev E R own cc nL F pc l (.int x :: st) σ := by
  intro p l0 e s m args below meth c A cells slots Q H locs ls C hc hA hX hf hP hS hL
  exact lv_if_lt C.1 C.2.1 d ht (fun h => kt h p l0 e s m args below meth c A cells slots Q H locs ls C hc hA hX hf hP hS hL) (fun h => kf h p l0 e s m args below meth c A cells slots Q H locs ls C hc hA hX hf hP hS hL)
theorem ev_if_ge {x : Int32} {off : Int} (tgt : Nat) (d : decode cc pc = .ok (.ifCond .ge off, 3)) (ht : (pc : Int) + off = (tgt : Int)) (kt : 0 ≤ x → Ev E R own cc nL F tgt l st σ) (kf : ¬ 0 ≤ x → Ev E R own cc nL F (pc + 3) l st σ) : Ev E R own cc nL F pc l (.int x :: st) σ := by
  intro p l0 e s m args below meth c A cells slots Q H locs ls C hc hA hX hf hP hS hL
  exact lv_if_ge C.1 C.2.1 d ht (fun h => kt h p l0 e s m args below meth c A cells slots Q H locs ls C hc hA hX hf hP hS hL) (fun h => kf h p l0 e s m args below meth c A cells slots Q H locs ls C hc hA hX hf hP hS hL)
theorem ev_if_gt {x : Int32} {off : Int} (tgt : Nat) (d : decode cc pc = .ok (.ifCond .gt off, 3)) (ht : (pc : Int) + off = (tgt : Int)) (kt : 0 < x → Ev E R own cc nL F tgt l st σ) (kf : ¬ 0 < x → Ev E R own cc nL F (pc + 3) l st σ) : Ev E R own cc nL F pc l (.int x :: st) σ := by
  intro p l0 e s m args below meth c A cells slots Q H locs ls C hc hA hX hf hP hS hL
  exact lv_if_gt C.1 C.2.1 d ht (fun h => kt h p l0 e s m args below meth c A cells slots Q H locs ls C hc hA hX hf hP hS hL) (fun h => kf h p l0 e s m args below meth c A cells slots Q H locs ls C hc hA hX hf hP hS hL)
theorem ev_if_le {x : Int32} {off : Int} (tgt : Nat) (d : decode cc pc = .ok (.ifCond .le off, 3)) (ht : (pc : Int) + off = (tgt : Int)) (kt : x ≤ 0 → Ev E R own cc nL F tgt l st σ) (kf : ¬ x ≤ 0 → Ev E R own cc nL F (pc + 3) l st σ) : Ev E R own cc nL F pc l (.int x :: st) σ := by
  intro p l0 e s m args below meth c A cells slots Q H locs ls C hc hA hX hf hP hS hL
  exact lv_if_le C.1 C.2.1 d ht (fun h => kt h p l0 e s m args below meth c A cells slots Q H locs ls C hc hA hX hf hP hS hL) (fun h => kf h p l0 e s m args below meth c A cells slots Q H locs ls C hc hA hX hf hP hS hL)
theorem ev_goto {off : Int} (tgt : Nat) (d : decode cc pc = .ok (.goto off, 3)) (ht : (pc : Int) + off = (tgt : Int)) (k : Ev E R own cc nL F tgt l st σ) : Ev E R own cc nL F pc l st σ := by
  intro p l0 e s m args below meth c A cells slots Q H locs ls C hc hA hX hf hP hS hL
  exact lv_goto C.1 C.2.1 d ht (k p l0 e s m args below meth c A cells slots Q H locs ls C hc hA hX hf hP hS hL)
theorem ev_ifnull {x : Nat} {off : Int} (d : decode cc pc = .ok (.ifnull off, 3)) (k : Ev E R own cc nL F (pc + 3) l st σ) : Ev E R own cc nL F pc l (.ref x :: st) σ := by
  intro p l0 e s m args below meth c A cells slots Q H locs ls C hc hA hX hf hP hS hL
  exact lv_ifnull C.1 C.2.1 d (k p l0 e s m args below meth c A cells slots Q H locs ls C hc hA hX hf hP hS hL)
theorem ev_ifnonnull {x : Nat} {off : Int} (tgt : Nat) (d : decode cc pc = .ok (.ifnonnull off, 3)) (ht : (pc : Int) + off = (tgt : Int)) (k : Ev E R own cc nL F tgt l st σ) : Ev E R own cc nL F pc l (.ref x :: st) σ := by
  intro p l0 e s m args below meth c A cells slots Q H locs ls C hc hA hX hf hP hS hL
  exact lv_ifnonnull C.1 C.2.1 d ht (k p l0 e s m args below meth c A cells slots Q H locs ls C hc hA hX hf hP hS hL)
theorem ev_ireturn {x : Int32} (d : decode cc pc = .ok (.ireturn, 1)) (k : F (some (.int x)) σ) : Ev E R own cc nL F pc l [.int x] σ := by
  intro p l0 e s m args below meth c A cells slots Q H locs ls C hc hA hX hf hP hS hL
  exact hf _ σ H locs ls pc k (Or.inl ⟨x, rfl, d⟩) hP hS
theorem ev_lreturn {x : Int64} (d : decode cc pc = .ok (.lreturn, 1)) (k : F (some (.long x)) σ) : Ev E R own cc nL F pc l [.long x] σ := by
  intro p l0 e s m args below meth c A cells slots Q H locs ls C hc hA hX hf hP hS hL
  exact hf _ σ H locs ls pc k (Or.inr (Or.inl ⟨x, rfl, d⟩)) hP hS
theorem ev_return (d : decode cc pc = .ok (.return_, 1)) (k : F none σ) : Ev E R own cc nL F pc l [] σ := by
  intro p l0 e s m args below meth c A cells slots Q H locs ls C hc hA hX hf hP hS hL
  exact hf _ σ H locs ls pc k (Or.inr (Or.inr (Or.inl ⟨rfl, d⟩))) hP hS
theorem ev_areturn {a : Nat} (d : decode cc pc = .ok (.areturn, 1)) (k : F (some (.ref a)) σ) : Ev E R own cc nL F pc l [.ref a] σ := by
  intro p l0 e s m args below meth c A cells slots Q H locs ls C hc hA hX hf hP hS hL
  exact hf _ σ H locs ls pc k (Or.inr (Or.inr (Or.inr ⟨a, rfl, d⟩))) hP hS
def x_nl : Option Value → Bool
  | some v => !(v.category == 2)
  | none => true
theorem x_nl_ok {a : Option Value} (h : x_nl a = true) (w : Value) (hw : a = some w) : w.category ≠ 2 := by
  subst hw
  simpa [x_nl] using h
theorem ev_iload_0 {x : Int32} {t : xL} (d : decode cc pc = .ok (.iload_n 0, 1)) (k : Ev E R own cc nL F (pc + 1) (some (.int x) :: t) (.int x :: st) σ) : Ev E R own cc nL F pc (some (.int x) :: t) st σ := by
  intro p l0 e s m args below meth c A cells slots Q H locs ls C hc hA hX hf hP hS hL
  exact lv_iload_n C.1 C.2.1 d rfl (hL.get (i := 0) rfl) (k p l0 e s m args below meth c A cells slots Q H locs ls C hc hA hX hf hP hS hL)
theorem ev_lload_0 {x : Int64} {t : xL} (d : decode cc pc = .ok (.lload_n 0, 1)) (k : Ev E R own cc nL F (pc + 1) (some (.long x) :: t) (.long x :: st) σ) : Ev E R own cc nL F pc (some (.long x) :: t) st σ := by
  intro p l0 e s m args below meth c A cells slots Q H locs ls C hc hA hX hf hP hS hL
  exact lv_lload_n C.1 C.2.1 d rfl (hL.get (i := 0) rfl) (k p l0 e s m args below meth c A cells slots Q H locs ls C hc hA hX hf hP hS hL)
theorem ev_aload_0 {x : Nat} {t : xL} (d : decode cc pc = .ok (.aload_n 0, 1)) (k : Ev E R own cc nL F (pc + 1) (some (.ref x) :: t) (.ref x :: st) σ) : Ev E R own cc nL F pc (some (.ref x) :: t) st σ := by
  intro p l0 e s m args below meth c A cells slots Q H locs ls C hc hA hX hf hP hS hL
  exact lv_aload_n C.1 C.2.1 d rfl (hL.get (i := 0) rfl) (k p l0 e s m args below meth c A cells slots Q H locs ls C hc hA hX hf hP hS hL)
theorem ev_istore_0 {b : Option Value} {x : Int32} {t : xL} (d : decode cc pc = .ok (.istore_n 0, 1)) (k : Ev E R own cc nL F (pc + 1) (some (.int x) :: t) st σ) : Ev E R own cc nL F pc (b :: t) (.int x :: st) σ := by
  intro p l0 e s m args below meth c A cells slots Q H locs ls C hc hA hX hf hP hS hL
  have hi : 0 < (b :: t).length := by simp
  refine lv_istore_n C.1 C.2.1 d rfl hL.1 (by rw [← hL.2]; exact hi) rfl (fun ls2 h2 => ?_)
  exact k p l0 e s m args below meth c A cells slots Q H locs ls2 C hc hA hX hf hP hS (hL.setI (.int x) hi (fun w h => absurd rfl h) h2)
theorem ev_astore_0 {b : Option Value} {x : Nat} {t : xL} (d : decode cc pc = .ok (.astore_n 0, 1)) (k : Ev E R own cc nL F (pc + 1) (some (.ref x) :: t) st σ) : Ev E R own cc nL F pc (b :: t) (.ref x :: st) σ := by
  intro p l0 e s m args below meth c A cells slots Q H locs ls C hc hA hX hf hP hS hL
  have hi : 0 < (b :: t).length := by simp
  refine lv_astore_n C.1 C.2.1 d rfl hL.1 (by rw [← hL.2]; exact hi) rfl (fun ls2 h2 => ?_)
  exact k p l0 e s m args below meth c A cells slots Q H locs ls2 C hc hA hX hf hP hS (hL.setI (.ref x) hi (fun w h => absurd rfl h) h2)
theorem ev_lstore_0 {b b2 : Option Value} {x : Int64} {t : xL} (d : decode cc pc = .ok (.lstore_n 0, 1)) (k : Ev E R own cc nL F (pc + 1) (some (.long x) :: none :: t) st σ) : Ev E R own cc nL F pc (b :: b2 :: t) (.long x :: st) σ := by
  intro p l0 e s m args below meth c A cells slots Q H locs ls C hc hA hX hf hP hS hL
  have hi : 0 + 1 < (b :: b2 :: t).length := by simp
  refine lv_lstore_n C.1 C.2.1 d rfl hL.1 (by rw [← hL.2]; exact hi) rfl (fun ls2 h2 => ?_)
  exact k p l0 e s m args below meth c A cells slots Q H locs ls2 C hc hA hX hf hP hS (hL.setL (.long x) hi (fun w h => absurd rfl h) h2)
theorem ev_iinc_0 {x : Int32} {n : Int} {t : xL} (v : Int32) (d : decode cc pc = .ok (.iinc 0 n, 3)) (hv : Int32.ofInt n = v) (k : Ev E R own cc nL F (pc + 3) (some (.int (x + v)) :: t) st σ) : Ev E R own cc nL F pc (some (.int x) :: t) st σ := by
  intro p l0 e s m args below meth c A cells slots Q H locs ls C hc hA hX hf hP hS hL
  have hi : 0 < (some (.int x) :: t).length := by simp
  obtain ⟨kk, hkk⟩ := List.getElem?_of_mem ((xll_mem (some (.int x) :: t) 0 0 (.int x)).mpr ⟨0, by omega, rfl⟩)
  refine lv_iinc (v := x + v) C.1 C.2.1 d hL.1 hkk (by rw [hv]) (by rw [← hL.2]; exact hi) rfl (fun ls2 h2 => ?_)
  exact k p l0 e s m args below meth c A cells slots Q H locs ls2 C hc hA hX hf hP hS (hL.setI (.int (x + v)) hi (fun w h => absurd rfl h) h2)
theorem ev_iload_1 {a0 : Option Value} {x : Int32} {t : xL} (d : decode cc pc = .ok (.iload_n 1, 1)) (k : Ev E R own cc nL F (pc + 1) (a0 :: some (.int x) :: t) (.int x :: st) σ) : Ev E R own cc nL F pc (a0 :: some (.int x) :: t) st σ := by
  intro p l0 e s m args below meth c A cells slots Q H locs ls C hc hA hX hf hP hS hL
  exact lv_iload_n C.1 C.2.1 d rfl (hL.get (i := 1) rfl) (k p l0 e s m args below meth c A cells slots Q H locs ls C hc hA hX hf hP hS hL)
theorem ev_lload_1 {a0 : Option Value} {x : Int64} {t : xL} (d : decode cc pc = .ok (.lload_n 1, 1)) (k : Ev E R own cc nL F (pc + 1) (a0 :: some (.long x) :: t) (.long x :: st) σ) : Ev E R own cc nL F pc (a0 :: some (.long x) :: t) st σ := by
  intro p l0 e s m args below meth c A cells slots Q H locs ls C hc hA hX hf hP hS hL
  exact lv_lload_n C.1 C.2.1 d rfl (hL.get (i := 1) rfl) (k p l0 e s m args below meth c A cells slots Q H locs ls C hc hA hX hf hP hS hL)
theorem ev_aload_1 {a0 : Option Value} {x : Nat} {t : xL} (d : decode cc pc = .ok (.aload_n 1, 1)) (k : Ev E R own cc nL F (pc + 1) (a0 :: some (.ref x) :: t) (.ref x :: st) σ) : Ev E R own cc nL F pc (a0 :: some (.ref x) :: t) st σ := by
  intro p l0 e s m args below meth c A cells slots Q H locs ls C hc hA hX hf hP hS hL
  exact lv_aload_n C.1 C.2.1 d rfl (hL.get (i := 1) rfl) (k p l0 e s m args below meth c A cells slots Q H locs ls C hc hA hX hf hP hS hL)
theorem ev_istore_1 {a0 : Option Value} {b : Option Value} {x : Int32} {t : xL} (d : decode cc pc = .ok (.istore_n 1, 1)) (hp : x_nl a0 = true) (k : Ev E R own cc nL F (pc + 1) (a0 :: some (.int x) :: t) st σ) : Ev E R own cc nL F pc (a0 :: b :: t) (.int x :: st) σ := by
  intro p l0 e s m args below meth c A cells slots Q H locs ls C hc hA hX hf hP hS hL
  have hi : 1 < (a0 :: b :: t).length := by simp
  refine lv_istore_n C.1 C.2.1 d rfl hL.1 (by rw [← hL.2]; exact hi) rfl (fun ls2 h2 => ?_)
  exact k p l0 e s m args below meth c A cells slots Q H locs ls2 C hc hA hX hf hP hS (hL.setI (.int x) hi (fun w _ h => x_nl_ok hp w (Option.some.inj h)) h2)
theorem ev_astore_1 {a0 : Option Value} {b : Option Value} {x : Nat} {t : xL} (d : decode cc pc = .ok (.astore_n 1, 1)) (hp : x_nl a0 = true) (k : Ev E R own cc nL F (pc + 1) (a0 :: some (.ref x) :: t) st σ) : Ev E R own cc nL F pc (a0 :: b :: t) (.ref x :: st) σ := by
  intro p l0 e s m args below meth c A cells slots Q H locs ls C hc hA hX hf hP hS hL
  have hi : 1 < (a0 :: b :: t).length := by simp
  refine lv_astore_n C.1 C.2.1 d rfl hL.1 (by rw [← hL.2]; exact hi) rfl (fun ls2 h2 => ?_)
  exact k p l0 e s m args below meth c A cells slots Q H locs ls2 C hc hA hX hf hP hS (hL.setI (.ref x) hi (fun w _ h => x_nl_ok hp w (Option.some.inj h)) h2)
theorem ev_lstore_1 {a0 : Option Value} {b b2 : Option Value} {x : Int64} {t : xL} (d : decode cc pc = .ok (.lstore_n 1, 1)) (hp : x_nl a0 = true) (k : Ev E R own cc nL F (pc + 1) (a0 :: some (.long x) :: none :: t) st σ) : Ev E R own cc nL F pc (a0 :: b :: b2 :: t) (.long x :: st) σ := by
  intro p l0 e s m args below meth c A cells slots Q H locs ls C hc hA hX hf hP hS hL
  have hi : 1 + 1 < (a0 :: b :: b2 :: t).length := by simp
  refine lv_lstore_n C.1 C.2.1 d rfl hL.1 (by rw [← hL.2]; exact hi) rfl (fun ls2 h2 => ?_)
  exact k p l0 e s m args below meth c A cells slots Q H locs ls2 C hc hA hX hf hP hS (hL.setL (.long x) hi (fun w _ h => x_nl_ok hp w (Option.some.inj h)) h2)
theorem ev_iinc_1 {a0 : Option Value} {x : Int32} {n : Int} {t : xL} (v : Int32) (d : decode cc pc = .ok (.iinc 1 n, 3)) (hv : Int32.ofInt n = v) (hp : x_nl a0 = true) (k : Ev E R own cc nL F (pc + 3) (a0 :: some (.int (x + v)) :: t) st σ) : Ev E R own cc nL F pc (a0 :: some (.int x) :: t) st σ := by
  intro p l0 e s m args below meth c A cells slots Q H locs ls C hc hA hX hf hP hS hL
  have hi : 1 < (a0 :: some (.int x) :: t).length := by simp
  obtain ⟨kk, hkk⟩ := List.getElem?_of_mem ((xll_mem (a0 :: some (.int x) :: t) 0 1 (.int x)).mpr ⟨1, by omega, rfl⟩)
  refine lv_iinc (v := x + v) C.1 C.2.1 d hL.1 hkk (by rw [hv]) (by rw [← hL.2]; exact hi) rfl (fun ls2 h2 => ?_)
  exact k p l0 e s m args below meth c A cells slots Q H locs ls2 C hc hA hX hf hP hS (hL.setI (.int (x + v)) hi (fun w _ h => x_nl_ok hp w (Option.some.inj h)) h2)
theorem ev_iload_2 {a0 a1 : Option Value} {x : Int32} {t : xL} (d : decode cc pc = .ok (.iload_n 2, 1)) (k : Ev E R own cc nL F (pc + 1) (a0 :: a1 :: some (.int x) :: t) (.int x :: st) σ) : Ev E R own cc nL F pc (a0 :: a1 :: some (.int x) :: t) st σ := by
  intro p l0 e s m args below meth c A cells slots Q H locs ls C hc hA hX hf hP hS hL
  exact lv_iload_n C.1 C.2.1 d rfl (hL.get (i := 2) rfl) (k p l0 e s m args below meth c A cells slots Q H locs ls C hc hA hX hf hP hS hL)
theorem ev_lload_2 {a0 a1 : Option Value} {x : Int64} {t : xL} (d : decode cc pc = .ok (.lload_n 2, 1)) (k : Ev E R own cc nL F (pc + 1) (a0 :: a1 :: some (.long x) :: t) (.long x :: st) σ) : Ev E R own cc nL F pc (a0 :: a1 :: some (.long x) :: t) st σ := by
  intro p l0 e s m args below meth c A cells slots Q H locs ls C hc hA hX hf hP hS hL
  exact lv_lload_n C.1 C.2.1 d rfl (hL.get (i := 2) rfl) (k p l0 e s m args below meth c A cells slots Q H locs ls C hc hA hX hf hP hS hL)
theorem ev_aload_2 {a0 a1 : Option Value} {x : Nat} {t : xL} (d : decode cc pc = .ok (.aload_n 2, 1)) (k : Ev E R own cc nL F (pc + 1) (a0 :: a1 :: some (.ref x) :: t) (.ref x :: st) σ) : Ev E R own cc nL F pc (a0 :: a1 :: some (.ref x) :: t) st σ := by
  intro p l0 e s m args below meth c A cells slots Q H locs ls C hc hA hX hf hP hS hL
  exact lv_aload_n C.1 C.2.1 d rfl (hL.get (i := 2) rfl) (k p l0 e s m args below meth c A cells slots Q H locs ls C hc hA hX hf hP hS hL)
theorem ev_istore_2 {a0 a1 : Option Value} {b : Option Value} {x : Int32} {t : xL} (d : decode cc pc = .ok (.istore_n 2, 1)) (hp : x_nl a1 = true) (k : Ev E R own cc nL F (pc + 1) (a0 :: a1 :: some (.int x) :: t) st σ) : Ev E R own cc nL F pc (a0 :: a1 :: b :: t) (.int x :: st) σ := by
  intro p l0 e s m args below meth c A cells slots Q H locs ls C hc hA hX hf hP hS hL
  have hi : 2 < (a0 :: a1 :: b :: t).length := by simp
  refine lv_istore_n C.1 C.2.1 d rfl hL.1 (by rw [← hL.2]; exact hi) rfl (fun ls2 h2 => ?_)
  exact k p l0 e s m args below meth c A cells slots Q H locs ls2 C hc hA hX hf hP hS (hL.setI (.int x) hi (fun w _ h => x_nl_ok hp w (Option.some.inj h)) h2)
theorem ev_astore_2 {a0 a1 : Option Value} {b : Option Value} {x : Nat} {t : xL} (d : decode cc pc = .ok (.astore_n 2, 1)) (hp : x_nl a1 = true) (k : Ev E R own cc nL F (pc + 1) (a0 :: a1 :: some (.ref x) :: t) st σ) : Ev E R own cc nL F pc (a0 :: a1 :: b :: t) (.ref x :: st) σ := by
  intro p l0 e s m args below meth c A cells slots Q H locs ls C hc hA hX hf hP hS hL
  have hi : 2 < (a0 :: a1 :: b :: t).length := by simp
  refine lv_astore_n C.1 C.2.1 d rfl hL.1 (by rw [← hL.2]; exact hi) rfl (fun ls2 h2 => ?_)
  exact k p l0 e s m args below meth c A cells slots Q H locs ls2 C hc hA hX hf hP hS (hL.setI (.ref x) hi (fun w _ h => x_nl_ok hp w (Option.some.inj h)) h2)
theorem ev_lstore_2 {a0 a1 : Option Value} {b b2 : Option Value} {x : Int64} {t : xL} (d : decode cc pc = .ok (.lstore_n 2, 1)) (hp : x_nl a1 = true) (k : Ev E R own cc nL F (pc + 1) (a0 :: a1 :: some (.long x) :: none :: t) st σ) : Ev E R own cc nL F pc (a0 :: a1 :: b :: b2 :: t) (.long x :: st) σ := by
  intro p l0 e s m args below meth c A cells slots Q H locs ls C hc hA hX hf hP hS hL
  have hi : 2 + 1 < (a0 :: a1 :: b :: b2 :: t).length := by simp
  refine lv_lstore_n C.1 C.2.1 d rfl hL.1 (by rw [← hL.2]; exact hi) rfl (fun ls2 h2 => ?_)
  exact k p l0 e s m args below meth c A cells slots Q H locs ls2 C hc hA hX hf hP hS (hL.setL (.long x) hi (fun w _ h => x_nl_ok hp w (Option.some.inj h)) h2)
theorem ev_iinc_2 {a0 a1 : Option Value} {x : Int32} {n : Int} {t : xL} (v : Int32) (d : decode cc pc = .ok (.iinc 2 n, 3)) (hv : Int32.ofInt n = v) (hp : x_nl a1 = true) (k : Ev E R own cc nL F (pc + 3) (a0 :: a1 :: some (.int (x + v)) :: t) st σ) : Ev E R own cc nL F pc (a0 :: a1 :: some (.int x) :: t) st σ := by
  intro p l0 e s m args below meth c A cells slots Q H locs ls C hc hA hX hf hP hS hL
  have hi : 2 < (a0 :: a1 :: some (.int x) :: t).length := by simp
  obtain ⟨kk, hkk⟩ := List.getElem?_of_mem ((xll_mem (a0 :: a1 :: some (.int x) :: t) 0 2 (.int x)).mpr ⟨2, by omega, rfl⟩)
  refine lv_iinc (v := x + v) C.1 C.2.1 d hL.1 hkk (by rw [hv]) (by rw [← hL.2]; exact hi) rfl (fun ls2 h2 => ?_)
  exact k p l0 e s m args below meth c A cells slots Q H locs ls2 C hc hA hX hf hP hS (hL.setI (.int (x + v)) hi (fun w _ h => x_nl_ok hp w (Option.some.inj h)) h2)
theorem ev_iload_3 {a0 a1 a2 : Option Value} {x : Int32} {t : xL} (d : decode cc pc = .ok (.iload_n 3, 1)) (k : Ev E R own cc nL F (pc + 1) (a0 :: a1 :: a2 :: some (.int x) :: t) (.int x :: st) σ) : Ev E R own cc nL F pc (a0 :: a1 :: a2 :: some (.int x) :: t) st σ := by
  intro p l0 e s m args below meth c A cells slots Q H locs ls C hc hA hX hf hP hS hL
  exact lv_iload_n C.1 C.2.1 d rfl (hL.get (i := 3) rfl) (k p l0 e s m args below meth c A cells slots Q H locs ls C hc hA hX hf hP hS hL)
theorem ev_lload_3 {a0 a1 a2 : Option Value} {x : Int64} {t : xL} (d : decode cc pc = .ok (.lload_n 3, 1)) (k : Ev E R own cc nL F (pc + 1) (a0 :: a1 :: a2 :: some (.long x) :: t) (.long x :: st) σ) : Ev E R own cc nL F pc (a0 :: a1 :: a2 :: some (.long x) :: t) st σ := by
  intro p l0 e s m args below meth c A cells slots Q H locs ls C hc hA hX hf hP hS hL
  exact lv_lload_n C.1 C.2.1 d rfl (hL.get (i := 3) rfl) (k p l0 e s m args below meth c A cells slots Q H locs ls C hc hA hX hf hP hS hL)
theorem ev_aload_3 {a0 a1 a2 : Option Value} {x : Nat} {t : xL} (d : decode cc pc = .ok (.aload_n 3, 1)) (k : Ev E R own cc nL F (pc + 1) (a0 :: a1 :: a2 :: some (.ref x) :: t) (.ref x :: st) σ) : Ev E R own cc nL F pc (a0 :: a1 :: a2 :: some (.ref x) :: t) st σ := by
  intro p l0 e s m args below meth c A cells slots Q H locs ls C hc hA hX hf hP hS hL
  exact lv_aload_n C.1 C.2.1 d rfl (hL.get (i := 3) rfl) (k p l0 e s m args below meth c A cells slots Q H locs ls C hc hA hX hf hP hS hL)
theorem ev_istore_3 {a0 a1 a2 : Option Value} {b : Option Value} {x : Int32} {t : xL} (d : decode cc pc = .ok (.istore_n 3, 1)) (hp : x_nl a2 = true) (k : Ev E R own cc nL F (pc + 1) (a0 :: a1 :: a2 :: some (.int x) :: t) st σ) : Ev E R own cc nL F pc (a0 :: a1 :: a2 :: b :: t) (.int x :: st) σ := by
  intro p l0 e s m args below meth c A cells slots Q H locs ls C hc hA hX hf hP hS hL
  have hi : 3 < (a0 :: a1 :: a2 :: b :: t).length := by simp
  refine lv_istore_n C.1 C.2.1 d rfl hL.1 (by rw [← hL.2]; exact hi) rfl (fun ls2 h2 => ?_)
  exact k p l0 e s m args below meth c A cells slots Q H locs ls2 C hc hA hX hf hP hS (hL.setI (.int x) hi (fun w _ h => x_nl_ok hp w (Option.some.inj h)) h2)
theorem ev_astore_3 {a0 a1 a2 : Option Value} {b : Option Value} {x : Nat} {t : xL} (d : decode cc pc = .ok (.astore_n 3, 1)) (hp : x_nl a2 = true) (k : Ev E R own cc nL F (pc + 1) (a0 :: a1 :: a2 :: some (.ref x) :: t) st σ) : Ev E R own cc nL F pc (a0 :: a1 :: a2 :: b :: t) (.ref x :: st) σ := by
  intro p l0 e s m args below meth c A cells slots Q H locs ls C hc hA hX hf hP hS hL
  have hi : 3 < (a0 :: a1 :: a2 :: b :: t).length := by simp
  refine lv_astore_n C.1 C.2.1 d rfl hL.1 (by rw [← hL.2]; exact hi) rfl (fun ls2 h2 => ?_)
  exact k p l0 e s m args below meth c A cells slots Q H locs ls2 C hc hA hX hf hP hS (hL.setI (.ref x) hi (fun w _ h => x_nl_ok hp w (Option.some.inj h)) h2)
theorem ev_lstore_3 {a0 a1 a2 : Option Value} {b b2 : Option Value} {x : Int64} {t : xL} (d : decode cc pc = .ok (.lstore_n 3, 1)) (hp : x_nl a2 = true) (k : Ev E R own cc nL F (pc + 1) (a0 :: a1 :: a2 :: some (.long x) :: none :: t) st σ) : Ev E R own cc nL F pc (a0 :: a1 :: a2 :: b :: b2 :: t) (.long x :: st) σ := by
  intro p l0 e s m args below meth c A cells slots Q H locs ls C hc hA hX hf hP hS hL
  have hi : 3 + 1 < (a0 :: a1 :: a2 :: b :: b2 :: t).length := by simp
  refine lv_lstore_n C.1 C.2.1 d rfl hL.1 (by rw [← hL.2]; exact hi) rfl (fun ls2 h2 => ?_)
  exact k p l0 e s m args below meth c A cells slots Q H locs ls2 C hc hA hX hf hP hS (hL.setL (.long x) hi (fun w _ h => x_nl_ok hp w (Option.some.inj h)) h2)
theorem ev_iinc_3 {a0 a1 a2 : Option Value} {x : Int32} {n : Int} {t : xL} (v : Int32) (d : decode cc pc = .ok (.iinc 3 n, 3)) (hv : Int32.ofInt n = v) (hp : x_nl a2 = true) (k : Ev E R own cc nL F (pc + 3) (a0 :: a1 :: a2 :: some (.int (x + v)) :: t) st σ) : Ev E R own cc nL F pc (a0 :: a1 :: a2 :: some (.int x) :: t) st σ := by
  intro p l0 e s m args below meth c A cells slots Q H locs ls C hc hA hX hf hP hS hL
  have hi : 3 < (a0 :: a1 :: a2 :: some (.int x) :: t).length := by simp
  obtain ⟨kk, hkk⟩ := List.getElem?_of_mem ((xll_mem (a0 :: a1 :: a2 :: some (.int x) :: t) 0 3 (.int x)).mpr ⟨3, by omega, rfl⟩)
  refine lv_iinc (v := x + v) C.1 C.2.1 d hL.1 hkk (by rw [hv]) (by rw [← hL.2]; exact hi) rfl (fun ls2 h2 => ?_)
  exact k p l0 e s m args below meth c A cells slots Q H locs ls2 C hc hA hX hf hP hS (hL.setI (.int (x + v)) hi (fun w _ h => x_nl_ok hp w (Option.some.inj h)) h2)
theorem ev_iload_4 {a0 a1 a2 a3 : Option Value} {x : Int32} {t : xL} (d : decode cc pc = .ok (.iload 4, 2)) (k : Ev E R own cc nL F (pc + 2) (a0 :: a1 :: a2 :: a3 :: some (.int x) :: t) (.int x :: st) σ) : Ev E R own cc nL F pc (a0 :: a1 :: a2 :: a3 :: some (.int x) :: t) st σ := by
  intro p l0 e s m args below meth c A cells slots Q H locs ls C hc hA hX hf hP hS hL
  exact lv_iload C.1 C.2.1 d (hL.get (i := 4) rfl) (k p l0 e s m args below meth c A cells slots Q H locs ls C hc hA hX hf hP hS hL)
theorem ev_lload_4 {a0 a1 a2 a3 : Option Value} {x : Int64} {t : xL} (d : decode cc pc = .ok (.lload 4, 2)) (k : Ev E R own cc nL F (pc + 2) (a0 :: a1 :: a2 :: a3 :: some (.long x) :: t) (.long x :: st) σ) : Ev E R own cc nL F pc (a0 :: a1 :: a2 :: a3 :: some (.long x) :: t) st σ := by
  intro p l0 e s m args below meth c A cells slots Q H locs ls C hc hA hX hf hP hS hL
  exact lv_lload C.1 C.2.1 d (hL.get (i := 4) rfl) (k p l0 e s m args below meth c A cells slots Q H locs ls C hc hA hX hf hP hS hL)
theorem ev_aload_4 {a0 a1 a2 a3 : Option Value} {x : Nat} {t : xL} (d : decode cc pc = .ok (.aload 4, 2)) (k : Ev E R own cc nL F (pc + 2) (a0 :: a1 :: a2 :: a3 :: some (.ref x) :: t) (.ref x :: st) σ) : Ev E R own cc nL F pc (a0 :: a1 :: a2 :: a3 :: some (.ref x) :: t) st σ := by
  intro p l0 e s m args below meth c A cells slots Q H locs ls C hc hA hX hf hP hS hL
  exact lv_aload C.1 C.2.1 d (hL.get (i := 4) rfl) (k p l0 e s m args below meth c A cells slots Q H locs ls C hc hA hX hf hP hS hL)
theorem ev_istore_4 {a0 a1 a2 a3 : Option Value} {b : Option Value} {x : Int32} {t : xL} (d : decode cc pc = .ok (.istore 4, 2)) (hp : x_nl a3 = true) (k : Ev E R own cc nL F (pc + 2) (a0 :: a1 :: a2 :: a3 :: some (.int x) :: t) st σ) : Ev E R own cc nL F pc (a0 :: a1 :: a2 :: a3 :: b :: t) (.int x :: st) σ := by
  intro p l0 e s m args below meth c A cells slots Q H locs ls C hc hA hX hf hP hS hL
  have hi : 4 < (a0 :: a1 :: a2 :: a3 :: b :: t).length := by simp
  refine lv_istore C.1 C.2.1 d hL.1 (by rw [← hL.2]; exact hi) rfl (fun ls2 h2 => ?_)
  exact k p l0 e s m args below meth c A cells slots Q H locs ls2 C hc hA hX hf hP hS (hL.setI (.int x) hi (fun w _ h => x_nl_ok hp w (Option.some.inj h)) h2)
theorem ev_astore_4 {a0 a1 a2 a3 : Option Value} {b : Option Value} {x : Nat} {t : xL} (d : decode cc pc = .ok (.astore 4, 2)) (hp : x_nl a3 = true) (k : Ev E R own cc nL F (pc + 2) (a0 :: a1 :: a2 :: a3 :: some (.ref x) :: t) st σ) : Ev E R own cc nL F pc (a0 :: a1 :: a2 :: a3 :: b :: t) (.ref x :: st) σ := by
  intro p l0 e s m args below meth c A cells slots Q H locs ls C hc hA hX hf hP hS hL
  have hi : 4 < (a0 :: a1 :: a2 :: a3 :: b :: t).length := by simp
  refine lv_astore C.1 C.2.1 d hL.1 (by rw [← hL.2]; exact hi) rfl (fun ls2 h2 => ?_)
  exact k p l0 e s m args below meth c A cells slots Q H locs ls2 C hc hA hX hf hP hS (hL.setI (.ref x) hi (fun w _ h => x_nl_ok hp w (Option.some.inj h)) h2)
theorem ev_lstore_4 {a0 a1 a2 a3 : Option Value} {b b2 : Option Value} {x : Int64} {t : xL} (d : decode cc pc = .ok (.lstore 4, 2)) (hp : x_nl a3 = true) (k : Ev E R own cc nL F (pc + 2) (a0 :: a1 :: a2 :: a3 :: some (.long x) :: none :: t) st σ) : Ev E R own cc nL F pc (a0 :: a1 :: a2 :: a3 :: b :: b2 :: t) (.long x :: st) σ := by
  intro p l0 e s m args below meth c A cells slots Q H locs ls C hc hA hX hf hP hS hL
  have hi : 4 + 1 < (a0 :: a1 :: a2 :: a3 :: b :: b2 :: t).length := by simp
  refine lv_lstore C.1 C.2.1 d hL.1 (by rw [← hL.2]; exact hi) rfl (fun ls2 h2 => ?_)
  exact k p l0 e s m args below meth c A cells slots Q H locs ls2 C hc hA hX hf hP hS (hL.setL (.long x) hi (fun w _ h => x_nl_ok hp w (Option.some.inj h)) h2)
theorem ev_iinc_4 {a0 a1 a2 a3 : Option Value} {x : Int32} {n : Int} {t : xL} (v : Int32) (d : decode cc pc = .ok (.iinc 4 n, 3)) (hv : Int32.ofInt n = v) (hp : x_nl a3 = true) (k : Ev E R own cc nL F (pc + 3) (a0 :: a1 :: a2 :: a3 :: some (.int (x + v)) :: t) st σ) : Ev E R own cc nL F pc (a0 :: a1 :: a2 :: a3 :: some (.int x) :: t) st σ := by
  intro p l0 e s m args below meth c A cells slots Q H locs ls C hc hA hX hf hP hS hL
  have hi : 4 < (a0 :: a1 :: a2 :: a3 :: some (.int x) :: t).length := by simp
  obtain ⟨kk, hkk⟩ := List.getElem?_of_mem ((xll_mem (a0 :: a1 :: a2 :: a3 :: some (.int x) :: t) 0 4 (.int x)).mpr ⟨4, by omega, rfl⟩)
  refine lv_iinc (v := x + v) C.1 C.2.1 d hL.1 hkk (by rw [hv]) (by rw [← hL.2]; exact hi) rfl (fun ls2 h2 => ?_)
  exact k p l0 e s m args below meth c A cells slots Q H locs ls2 C hc hA hX hf hP hS (hL.setI (.int (x + v)) hi (fun w _ h => x_nl_ok hp w (Option.some.inj h)) h2)
theorem ev_iload_5 {a0 a1 a2 a3 a4 : Option Value} {x : Int32} {t : xL} (d : decode cc pc = .ok (.iload 5, 2)) (k : Ev E R own cc nL F (pc + 2) (a0 :: a1 :: a2 :: a3 :: a4 :: some (.int x) :: t) (.int x :: st) σ) : Ev E R own cc nL F pc (a0 :: a1 :: a2 :: a3 :: a4 :: some (.int x) :: t) st σ := by
  intro p l0 e s m args below meth c A cells slots Q H locs ls C hc hA hX hf hP hS hL
  exact lv_iload C.1 C.2.1 d (hL.get (i := 5) rfl) (k p l0 e s m args below meth c A cells slots Q H locs ls C hc hA hX hf hP hS hL)
theorem ev_lload_5 {a0 a1 a2 a3 a4 : Option Value} {x : Int64} {t : xL} (d : decode cc pc = .ok (.lload 5, 2)) (k : Ev E R own cc nL F (pc + 2) (a0 :: a1 :: a2 :: a3 :: a4 :: some (.long x) :: t) (.long x :: st) σ) : Ev E R own cc nL F pc (a0 :: a1 :: a2 :: a3 :: a4 :: some (.long x) :: t) st σ := by
  intro p l0 e s m args below meth c A cells slots Q H locs ls C hc hA hX hf hP hS hL
  exact lv_lload C.1 C.2.1 d (hL.get (i := 5) rfl) (k p l0 e s m args below meth c A cells slots Q H locs ls C hc hA hX hf hP hS hL)
theorem ev_aload_5 {a0 a1 a2 a3 a4 : Option Value} {x : Nat} {t : xL} (d : decode cc pc = .ok (.aload 5, 2)) (k : Ev E R own cc nL F (pc + 2) (a0 :: a1 :: a2 :: a3 :: a4 :: some (.ref x) :: t) (.ref x :: st) σ) : Ev E R own cc nL F pc (a0 :: a1 :: a2 :: a3 :: a4 :: some (.ref x) :: t) st σ := by
  intro p l0 e s m args below meth c A cells slots Q H locs ls C hc hA hX hf hP hS hL
  exact lv_aload C.1 C.2.1 d (hL.get (i := 5) rfl) (k p l0 e s m args below meth c A cells slots Q H locs ls C hc hA hX hf hP hS hL)
theorem ev_istore_5 {a0 a1 a2 a3 a4 : Option Value} {b : Option Value} {x : Int32} {t : xL} (d : decode cc pc = .ok (.istore 5, 2)) (hp : x_nl a4 = true) (k : Ev E R own cc nL F (pc + 2) (a0 :: a1 :: a2 :: a3 :: a4 :: some (.int x) :: t) st σ) : Ev E R own cc nL F pc (a0 :: a1 :: a2 :: a3 :: a4 :: b :: t) (.int x :: st) σ := by
  intro p l0 e s m args below meth c A cells slots Q H locs ls C hc hA hX hf hP hS hL
  have hi : 5 < (a0 :: a1 :: a2 :: a3 :: a4 :: b :: t).length := by simp
  refine lv_istore C.1 C.2.1 d hL.1 (by rw [← hL.2]; exact hi) rfl (fun ls2 h2 => ?_)
  exact k p l0 e s m args below meth c A cells slots Q H locs ls2 C hc hA hX hf hP hS (hL.setI (.int x) hi (fun w _ h => x_nl_ok hp w (Option.some.inj h)) h2)
theorem ev_astore_5 {a0 a1 a2 a3 a4 : Option Value} {b : Option Value} {x : Nat} {t : xL} (d : decode cc pc = .ok (.astore 5, 2)) (hp : x_nl a4 = true) (k : Ev E R own cc nL F (pc + 2) (a0 :: a1 :: a2 :: a3 :: a4 :: some (.ref x) :: t) st σ) : Ev E R own cc nL F pc (a0 :: a1 :: a2 :: a3 :: a4 :: b :: t) (.ref x :: st) σ := by
  intro p l0 e s m args below meth c A cells slots Q H locs ls C hc hA hX hf hP hS hL
  have hi : 5 < (a0 :: a1 :: a2 :: a3 :: a4 :: b :: t).length := by simp
  refine lv_astore C.1 C.2.1 d hL.1 (by rw [← hL.2]; exact hi) rfl (fun ls2 h2 => ?_)
  exact k p l0 e s m args below meth c A cells slots Q H locs ls2 C hc hA hX hf hP hS (hL.setI (.ref x) hi (fun w _ h => x_nl_ok hp w (Option.some.inj h)) h2)
theorem ev_lstore_5 {a0 a1 a2 a3 a4 : Option Value} {b b2 : Option Value} {x : Int64} {t : xL} (d : decode cc pc = .ok (.lstore 5, 2)) (hp : x_nl a4 = true) (k : Ev E R own cc nL F (pc + 2) (a0 :: a1 :: a2 :: a3 :: a4 :: some (.long x) :: none :: t) st σ) : Ev E R own cc nL F pc (a0 :: a1 :: a2 :: a3 :: a4 :: b :: b2 :: t) (.long x :: st) σ := by
  intro p l0 e s m args below meth c A cells slots Q H locs ls C hc hA hX hf hP hS hL
  have hi : 5 + 1 < (a0 :: a1 :: a2 :: a3 :: a4 :: b :: b2 :: t).length := by simp
  refine lv_lstore C.1 C.2.1 d hL.1 (by rw [← hL.2]; exact hi) rfl (fun ls2 h2 => ?_)
  exact k p l0 e s m args below meth c A cells slots Q H locs ls2 C hc hA hX hf hP hS (hL.setL (.long x) hi (fun w _ h => x_nl_ok hp w (Option.some.inj h)) h2)
theorem ev_iinc_5 {a0 a1 a2 a3 a4 : Option Value} {x : Int32} {n : Int} {t : xL} (v : Int32) (d : decode cc pc = .ok (.iinc 5 n, 3)) (hv : Int32.ofInt n = v) (hp : x_nl a4 = true) (k : Ev E R own cc nL F (pc + 3) (a0 :: a1 :: a2 :: a3 :: a4 :: some (.int (x + v)) :: t) st σ) : Ev E R own cc nL F pc (a0 :: a1 :: a2 :: a3 :: a4 :: some (.int x) :: t) st σ := by
  intro p l0 e s m args below meth c A cells slots Q H locs ls C hc hA hX hf hP hS hL
  have hi : 5 < (a0 :: a1 :: a2 :: a3 :: a4 :: some (.int x) :: t).length := by simp
  obtain ⟨kk, hkk⟩ := List.getElem?_of_mem ((xll_mem (a0 :: a1 :: a2 :: a3 :: a4 :: some (.int x) :: t) 0 5 (.int x)).mpr ⟨5, by omega, rfl⟩)
  refine lv_iinc (v := x + v) C.1 C.2.1 d hL.1 hkk (by rw [hv]) (by rw [← hL.2]; exact hi) rfl (fun ls2 h2 => ?_)
  exact k p l0 e s m args below meth c A cells slots Q H locs ls2 C hc hA hX hf hP hS (hL.setI (.int (x + v)) hi (fun w _ h => x_nl_ok hp w (Option.some.inj h)) h2)
theorem ev_iload_6 {a0 a1 a2 a3 a4 a5 : Option Value} {x : Int32} {t : xL} (d : decode cc pc = .ok (.iload 6, 2)) (k : Ev E R own cc nL F (pc + 2) (a0 :: a1 :: a2 :: a3 :: a4 :: a5 :: some (.int x) :: t) (.int x :: st) σ) : Ev E R own cc nL F pc (a0 :: a1 :: a2 :: a3 :: a4 :: a5 :: some (.int x) :: t) st σ := by
  intro p l0 e s m args below meth c A cells slots Q H locs ls C hc hA hX hf hP hS hL
  exact lv_iload C.1 C.2.1 d (hL.get (i := 6) rfl) (k p l0 e s m args below meth c A cells slots Q H locs ls C hc hA hX hf hP hS hL)
theorem ev_lload_6 {a0 a1 a2 a3 a4 a5 : Option Value} {x : Int64} {t : xL} (d : decode cc pc = .ok (.lload 6, 2)) (k : Ev E R own cc nL F (pc + 2) (a0 :: a1 :: a2 :: a3 :: a4 :: a5 :: some (.long x) :: t) (.long x :: st) σ) : Ev E R own cc nL F pc (a0 :: a1 :: a2 :: a3 :: a4 :: a5 :: some (.long x) :: t) st σ := by
  intro p l0 e s m args below meth c A cells slots Q H locs ls C hc hA hX hf hP hS hL
  exact lv_lload C.1 C.2.1 d (hL.get (i := 6) rfl) (k p l0 e s m args below meth c A cells slots Q H locs ls C hc hA hX hf hP hS hL)
theorem ev_aload_6 {a0 a1 a2 a3 a4 a5 : Option Value} {x : Nat} {t : xL} (d : decode cc pc = .ok (.aload 6, 2)) (k : Ev E R own cc nL F (pc + 2) (a0 :: a1 :: a2 :: a3 :: a4 :: a5 :: some (.ref x) :: t) (.ref x :: st) σ) : Ev E R own cc nL F pc (a0 :: a1 :: a2 :: a3 :: a4 :: a5 :: some (.ref x) :: t) st σ := by
  intro p l0 e s m args below meth c A cells slots Q H locs ls C hc hA hX hf hP hS hL
  exact lv_aload C.1 C.2.1 d (hL.get (i := 6) rfl) (k p l0 e s m args below meth c A cells slots Q H locs ls C hc hA hX hf hP hS hL)
theorem ev_istore_6 {a0 a1 a2 a3 a4 a5 : Option Value} {b : Option Value} {x : Int32} {t : xL} (d : decode cc pc = .ok (.istore 6, 2)) (hp : x_nl a5 = true) (k : Ev E R own cc nL F (pc + 2) (a0 :: a1 :: a2 :: a3 :: a4 :: a5 :: some (.int x) :: t) st σ) : Ev E R own cc nL F pc (a0 :: a1 :: a2 :: a3 :: a4 :: a5 :: b :: t) (.int x :: st) σ := by
  intro p l0 e s m args below meth c A cells slots Q H locs ls C hc hA hX hf hP hS hL
  have hi : 6 < (a0 :: a1 :: a2 :: a3 :: a4 :: a5 :: b :: t).length := by simp
  refine lv_istore C.1 C.2.1 d hL.1 (by rw [← hL.2]; exact hi) rfl (fun ls2 h2 => ?_)
  exact k p l0 e s m args below meth c A cells slots Q H locs ls2 C hc hA hX hf hP hS (hL.setI (.int x) hi (fun w _ h => x_nl_ok hp w (Option.some.inj h)) h2)
theorem ev_astore_6 {a0 a1 a2 a3 a4 a5 : Option Value} {b : Option Value} {x : Nat} {t : xL} (d : decode cc pc = .ok (.astore 6, 2)) (hp : x_nl a5 = true) (k : Ev E R own cc nL F (pc + 2) (a0 :: a1 :: a2 :: a3 :: a4 :: a5 :: some (.ref x) :: t) st σ) : Ev E R own cc nL F pc (a0 :: a1 :: a2 :: a3 :: a4 :: a5 :: b :: t) (.ref x :: st) σ := by
  intro p l0 e s m args below meth c A cells slots Q H locs ls C hc hA hX hf hP hS hL
  have hi : 6 < (a0 :: a1 :: a2 :: a3 :: a4 :: a5 :: b :: t).length := by simp
  refine lv_astore C.1 C.2.1 d hL.1 (by rw [← hL.2]; exact hi) rfl (fun ls2 h2 => ?_)
  exact k p l0 e s m args below meth c A cells slots Q H locs ls2 C hc hA hX hf hP hS (hL.setI (.ref x) hi (fun w _ h => x_nl_ok hp w (Option.some.inj h)) h2)
theorem ev_lstore_6 {a0 a1 a2 a3 a4 a5 : Option Value} {b b2 : Option Value} {x : Int64} {t : xL} (d : decode cc pc = .ok (.lstore 6, 2)) (hp : x_nl a5 = true) (k : Ev E R own cc nL F (pc + 2) (a0 :: a1 :: a2 :: a3 :: a4 :: a5 :: some (.long x) :: none :: t) st σ) : Ev E R own cc nL F pc (a0 :: a1 :: a2 :: a3 :: a4 :: a5 :: b :: b2 :: t) (.long x :: st) σ := by
  intro p l0 e s m args below meth c A cells slots Q H locs ls C hc hA hX hf hP hS hL
  have hi : 6 + 1 < (a0 :: a1 :: a2 :: a3 :: a4 :: a5 :: b :: b2 :: t).length := by simp
  refine lv_lstore C.1 C.2.1 d hL.1 (by rw [← hL.2]; exact hi) rfl (fun ls2 h2 => ?_)
  exact k p l0 e s m args below meth c A cells slots Q H locs ls2 C hc hA hX hf hP hS (hL.setL (.long x) hi (fun w _ h => x_nl_ok hp w (Option.some.inj h)) h2)
theorem ev_iinc_6 {a0 a1 a2 a3 a4 a5 : Option Value} {x : Int32} {n : Int} {t : xL} (v : Int32) (d : decode cc pc = .ok (.iinc 6 n, 3)) (hv : Int32.ofInt n = v) (hp : x_nl a5 = true) (k : Ev E R own cc nL F (pc + 3) (a0 :: a1 :: a2 :: a3 :: a4 :: a5 :: some (.int (x + v)) :: t) st σ) : Ev E R own cc nL F pc (a0 :: a1 :: a2 :: a3 :: a4 :: a5 :: some (.int x) :: t) st σ := by
  intro p l0 e s m args below meth c A cells slots Q H locs ls C hc hA hX hf hP hS hL
  have hi : 6 < (a0 :: a1 :: a2 :: a3 :: a4 :: a5 :: some (.int x) :: t).length := by simp
  obtain ⟨kk, hkk⟩ := List.getElem?_of_mem ((xll_mem (a0 :: a1 :: a2 :: a3 :: a4 :: a5 :: some (.int x) :: t) 0 6 (.int x)).mpr ⟨6, by omega, rfl⟩)
  refine lv_iinc (v := x + v) C.1 C.2.1 d hL.1 hkk (by rw [hv]) (by rw [← hL.2]; exact hi) rfl (fun ls2 h2 => ?_)
  exact k p l0 e s m args below meth c A cells slots Q H locs ls2 C hc hA hX hf hP hS (hL.setI (.int (x + v)) hi (fun w _ h => x_nl_ok hp w (Option.some.inj h)) h2)
theorem ev_iload_7 {a0 a1 a2 a3 a4 a5 a6 : Option Value} {x : Int32} {t : xL} (d : decode cc pc = .ok (.iload 7, 2)) (k : Ev E R own cc nL F (pc + 2) (a0 :: a1 :: a2 :: a3 :: a4 :: a5 :: a6 :: some (.int x) :: t) (.int x :: st) σ) : Ev E R own cc nL F pc (a0 :: a1 :: a2 :: a3 :: a4 :: a5 :: a6 :: some (.int x) :: t) st σ := by
  intro p l0 e s m args below meth c A cells slots Q H locs ls C hc hA hX hf hP hS hL
  exact lv_iload C.1 C.2.1 d (hL.get (i := 7) rfl) (k p l0 e s m args below meth c A cells slots Q H locs ls C hc hA hX hf hP hS hL)
theorem ev_lload_7 {a0 a1 a2 a3 a4 a5 a6 : Option Value} {x : Int64} {t : xL} (d : decode cc pc = .ok (.lload 7, 2)) (k : Ev E R own cc nL F (pc + 2) (a0 :: a1 :: a2 :: a3 :: a4 :: a5 :: a6 :: some (.long x) :: t) (.long x :: st) σ) : Ev E R own cc nL F pc (a0 :: a1 :: a2 :: a3 :: a4 :: a5 :: a6 :: some (.long x) :: t) st σ := by
  intro p l0 e s m args below meth c A cells slots Q H locs ls C hc hA hX hf hP hS hL
  exact lv_lload C.1 C.2.1 d (hL.get (i := 7) rfl) (k p l0 e s m args below meth c A cells slots Q H locs ls C hc hA hX hf hP hS hL)
theorem ev_aload_7 {a0 a1 a2 a3 a4 a5 a6 : Option Value} {x : Nat} {t : xL} (d : decode cc pc = .ok (.aload 7, 2)) (k : Ev E R own cc nL F (pc + 2) (a0 :: a1 :: a2 :: a3 :: a4 :: a5 :: a6 :: some (.ref x) :: t) (.ref x :: st) σ) : Ev E R own cc nL F pc (a0 :: a1 :: a2 :: a3 :: a4 :: a5 :: a6 :: some (.ref x) :: t) st σ := by
  intro p l0 e s m args below meth c A cells slots Q H locs ls C hc hA hX hf hP hS hL
  exact lv_aload C.1 C.2.1 d (hL.get (i := 7) rfl) (k p l0 e s m args below meth c A cells slots Q H locs ls C hc hA hX hf hP hS hL)
theorem ev_istore_7 {a0 a1 a2 a3 a4 a5 a6 : Option Value} {b : Option Value} {x : Int32} {t : xL} (d : decode cc pc = .ok (.istore 7, 2)) (hp : x_nl a6 = true) (k : Ev E R own cc nL F (pc + 2) (a0 :: a1 :: a2 :: a3 :: a4 :: a5 :: a6 :: some (.int x) :: t) st σ) : Ev E R own cc nL F pc (a0 :: a1 :: a2 :: a3 :: a4 :: a5 :: a6 :: b :: t) (.int x :: st) σ := by
  intro p l0 e s m args below meth c A cells slots Q H locs ls C hc hA hX hf hP hS hL
  have hi : 7 < (a0 :: a1 :: a2 :: a3 :: a4 :: a5 :: a6 :: b :: t).length := by simp
  refine lv_istore C.1 C.2.1 d hL.1 (by rw [← hL.2]; exact hi) rfl (fun ls2 h2 => ?_)
  exact k p l0 e s m args below meth c A cells slots Q H locs ls2 C hc hA hX hf hP hS (hL.setI (.int x) hi (fun w _ h => x_nl_ok hp w (Option.some.inj h)) h2)
theorem ev_astore_7 {a0 a1 a2 a3 a4 a5 a6 : Option Value} {b : Option Value} {x : Nat} {t : xL} (d : decode cc pc = .ok (.astore 7, 2)) (hp : x_nl a6 = true) (k : Ev E R own cc nL F (pc + 2) (a0 :: a1 :: a2 :: a3 :: a4 :: a5 :: a6 :: some (.ref x) :: t) st σ) : Ev E R own cc nL F pc (a0 :: a1 :: a2 :: a3 :: a4 :: a5 :: a6 :: b :: t) (.ref x :: st) σ := by
  intro p l0 e s m args below meth c A cells slots Q H locs ls C hc hA hX hf hP hS hL
  have hi : 7 < (a0 :: a1 :: a2 :: a3 :: a4 :: a5 :: a6 :: b :: t).length := by simp
  refine lv_astore C.1 C.2.1 d hL.1 (by rw [← hL.2]; exact hi) rfl (fun ls2 h2 => ?_)
  exact k p l0 e s m args below meth c A cells slots Q H locs ls2 C hc hA hX hf hP hS (hL.setI (.ref x) hi (fun w _ h => x_nl_ok hp w (Option.some.inj h)) h2)
theorem ev_lstore_7 {a0 a1 a2 a3 a4 a5 a6 : Option Value} {b b2 : Option Value} {x : Int64} {t : xL} (d : decode cc pc = .ok (.lstore 7, 2)) (hp : x_nl a6 = true) (k : Ev E R own cc nL F (pc + 2) (a0 :: a1 :: a2 :: a3 :: a4 :: a5 :: a6 :: some (.long x) :: none :: t) st σ) : Ev E R own cc nL F pc (a0 :: a1 :: a2 :: a3 :: a4 :: a5 :: a6 :: b :: b2 :: t) (.long x :: st) σ := by
  intro p l0 e s m args below meth c A cells slots Q H locs ls C hc hA hX hf hP hS hL
  have hi : 7 + 1 < (a0 :: a1 :: a2 :: a3 :: a4 :: a5 :: a6 :: b :: b2 :: t).length := by simp
  refine lv_lstore C.1 C.2.1 d hL.1 (by rw [← hL.2]; exact hi) rfl (fun ls2 h2 => ?_)
  exact k p l0 e s m args below meth c A cells slots Q H locs ls2 C hc hA hX hf hP hS (hL.setL (.long x) hi (fun w _ h => x_nl_ok hp w (Option.some.inj h)) h2)
theorem ev_iinc_7 {a0 a1 a2 a3 a4 a5 a6 : Option Value} {x : Int32} {n : Int} {t : xL} (v : Int32) (d : decode cc pc = .ok (.iinc 7 n, 3)) (hv : Int32.ofInt n = v) (hp : x_nl a6 = true) (k : Ev E R own cc nL F (pc + 3) (a0 :: a1 :: a2 :: a3 :: a4 :: a5 :: a6 :: some (.int (x + v)) :: t) st σ) : Ev E R own cc nL F pc (a0 :: a1 :: a2 :: a3 :: a4 :: a5 :: a6 :: some (.int x) :: t) st σ := by
  intro p l0 e s m args below meth c A cells slots Q H locs ls C hc hA hX hf hP hS hL
  have hi : 7 < (a0 :: a1 :: a2 :: a3 :: a4 :: a5 :: a6 :: some (.int x) :: t).length := by simp
  obtain ⟨kk, hkk⟩ := List.getElem?_of_mem ((xll_mem (a0 :: a1 :: a2 :: a3 :: a4 :: a5 :: a6 :: some (.int x) :: t) 0 7 (.int x)).mpr ⟨7, by omega, rfl⟩)
  refine lv_iinc (v := x + v) C.1 C.2.1 d hL.1 hkk (by rw [hv]) (by rw [← hL.2]; exact hi) rfl (fun ls2 h2 => ?_)
  exact k p l0 e s m args below meth c A cells slots Q H locs ls2 C hc hA hX hf hP hS (hL.setI (.int (x + v)) hi (fun w _ h => x_nl_ok hp w (Option.some.inj h)) h2)
theorem ev_iload_8 {a0 a1 a2 a3 a4 a5 a6 a7 : Option Value} {x : Int32} {t : xL} (d : decode cc pc = .ok (.iload 8, 2)) (k : Ev E R own cc nL F (pc + 2) (a0 :: a1 :: a2 :: a3 :: a4 :: a5 :: a6 :: a7 :: some (.int x) :: t) (.int x :: st) σ) : Ev E R own cc nL F pc (a0 :: a1 :: a2 :: a3 :: a4 :: a5 :: a6 :: a7 :: some (.int x) :: t) st σ := by
  intro p l0 e s m args below meth c A cells slots Q H locs ls C hc hA hX hf hP hS hL
  exact lv_iload C.1 C.2.1 d (hL.get (i := 8) rfl) (k p l0 e s m args below meth c A cells slots Q H locs ls C hc hA hX hf hP hS hL)
theorem ev_lload_8 {a0 a1 a2 a3 a4 a5 a6 a7 : Option Value} {x : Int64} {t : xL} (d : decode cc pc = .ok (.lload 8, 2)) (k : Ev E R own cc nL F (pc + 2) (a0 :: a1 :: a2 :: a3 :: a4 :: a5 :: a6 :: a7 :: some (.long x) :: t) (.long x :: st) σ) : Ev E R own cc nL F pc (a0 :: a1 :: a2 :: a3 :: a4 :: a5 :: a6 :: a7 :: some (.long x) :: t) st σ := by
  intro p l0 e s m args below meth c A cells slots Q H locs ls C hc hA hX hf hP hS hL
  exact lv_lload C.1 C.2.1 d (hL.get (i := 8) rfl) (k p l0 e s m args below meth c A cells slots Q H locs ls C hc hA hX hf hP hS hL)
theorem ev_aload_8 {a0 a1 a2 a3 a4 a5 a6 a7 : Option Value} {x : Nat} {t : xL} (d : decode cc pc = .ok (.aload 8, 2)) (k : Ev E R own cc nL F (pc + 2) (a0 :: a1 :: a2 :: a3 :: a4 :: a5 :: a6 :: a7 :: some (.ref x) :: t) (.ref x :: st) σ) : Ev E R own cc nL F pc (a0 :: a1 :: a2 :: a3 :: a4 :: a5 :: a6 :: a7 :: some (.ref x) :: t) st σ := by
  intro p l0 e s m args below meth c A cells slots Q H locs ls C hc hA hX hf hP hS hL
  exact lv_aload C.1 C.2.1 d (hL.get (i := 8) rfl) (k p l0 e s m args below meth c A cells slots Q H locs ls C hc hA hX hf hP hS hL)
theorem ev_istore_8 {a0 a1 a2 a3 a4 a5 a6 a7 : Option Value} {b : Option Value} {x : Int32} {t : xL} (d : decode cc pc = .ok (.istore 8, 2)) (hp : x_nl a7 = true) (k : Ev E R own cc nL F (pc + 2) (a0 :: a1 :: a2 :: a3 :: a4 :: a5 :: a6 :: a7 :: some (.int x) :: t) st σ) : Ev E R own cc nL F pc (a0 :: a1 :: a2 :: a3 :: a4 :: a5 :: a6 :: a7 :: b :: t) (.int x :: st) σ := by
  intro p l0 e s m args below meth c A cells slots Q H locs ls C hc hA hX hf hP hS hL
  have hi : 8 < (a0 :: a1 :: a2 :: a3 :: a4 :: a5 :: a6 :: a7 :: b :: t).length := by simp
  refine lv_istore C.1 C.2.1 d hL.1 (by rw [← hL.2]; exact hi) rfl (fun ls2 h2 => ?_)
  exact k p l0 e s m args below meth c A cells slots Q H locs ls2 C hc hA hX hf hP hS (hL.setI (.int x) hi (fun w _ h => x_nl_ok hp w (Option.some.inj h)) h2)
theorem ev_astore_8 {a0 a1 a2 a3 a4 a5 a6 a7 : Option Value} {b : Option Value} {x : Nat} {t : xL} (d : decode cc pc = .ok (.astore 8, 2)) (hp : x_nl a7 = true) (k : Ev E R own cc nL F (pc + 2) (a0 :: a1 :: a2 :: a3 :: a4 :: a5 :: a6 :: a7 :: some (.ref x) :: t) st σ) : Ev E R own cc nL F pc (a0 :: a1 :: a2 :: a3 :: a4 :: a5 :: a6 :: a7 :: b :: t) (.ref x :: st) σ := by
  intro p l0 e s m args below meth c A cells slots Q H locs ls C hc hA hX hf hP hS hL
  have hi : 8 < (a0 :: a1 :: a2 :: a3 :: a4 :: a5 :: a6 :: a7 :: b :: t).length := by simp
  refine lv_astore C.1 C.2.1 d hL.1 (by rw [← hL.2]; exact hi) rfl (fun ls2 h2 => ?_)
  exact k p l0 e s m args below meth c A cells slots Q H locs ls2 C hc hA hX hf hP hS (hL.setI (.ref x) hi (fun w _ h => x_nl_ok hp w (Option.some.inj h)) h2)
theorem ev_lstore_8 {a0 a1 a2 a3 a4 a5 a6 a7 : Option Value} {b b2 : Option Value} {x : Int64} {t : xL} (d : decode cc pc = .ok (.lstore 8, 2)) (hp : x_nl a7 = true) (k : Ev E R own cc nL F (pc + 2) (a0 :: a1 :: a2 :: a3 :: a4 :: a5 :: a6 :: a7 :: some (.long x) :: none :: t) st σ) : Ev E R own cc nL F pc (a0 :: a1 :: a2 :: a3 :: a4 :: a5 :: a6 :: a7 :: b :: b2 :: t) (.long x :: st) σ := by
  intro p l0 e s m args below meth c A cells slots Q H locs ls C hc hA hX hf hP hS hL
  have hi : 8 + 1 < (a0 :: a1 :: a2 :: a3 :: a4 :: a5 :: a6 :: a7 :: b :: b2 :: t).length := by simp
  refine lv_lstore C.1 C.2.1 d hL.1 (by rw [← hL.2]; exact hi) rfl (fun ls2 h2 => ?_)
  exact k p l0 e s m args below meth c A cells slots Q H locs ls2 C hc hA hX hf hP hS (hL.setL (.long x) hi (fun w _ h => x_nl_ok hp w (Option.some.inj h)) h2)
theorem ev_iinc_8 {a0 a1 a2 a3 a4 a5 a6 a7 : Option Value} {x : Int32} {n : Int} {t : xL} (v : Int32) (d : decode cc pc = .ok (.iinc 8 n, 3)) (hv : Int32.ofInt n = v) (hp : x_nl a7 = true) (k : Ev E R own cc nL F (pc + 3) (a0 :: a1 :: a2 :: a3 :: a4 :: a5 :: a6 :: a7 :: some (.int (x + v)) :: t) st σ) : Ev E R own cc nL F pc (a0 :: a1 :: a2 :: a3 :: a4 :: a5 :: a6 :: a7 :: some (.int x) :: t) st σ := by
  intro p l0 e s m args below meth c A cells slots Q H locs ls C hc hA hX hf hP hS hL
  have hi : 8 < (a0 :: a1 :: a2 :: a3 :: a4 :: a5 :: a6 :: a7 :: some (.int x) :: t).length := by simp
  obtain ⟨kk, hkk⟩ := List.getElem?_of_mem ((xll_mem (a0 :: a1 :: a2 :: a3 :: a4 :: a5 :: a6 :: a7 :: some (.int x) :: t) 0 8 (.int x)).mpr ⟨8, by omega, rfl⟩)
  refine lv_iinc (v := x + v) C.1 C.2.1 d hL.1 hkk (by rw [hv]) (by rw [← hL.2]; exact hi) rfl (fun ls2 h2 => ?_)
  exact k p l0 e s m args below meth c A cells slots Q H locs ls2 C hc hA hX hf hP hS (hL.setI (.int (x + v)) hi (fun w _ h => x_nl_ok hp w (Option.some.inj h)) h2)
theorem ev_iload_9 {a0 a1 a2 a3 a4 a5 a6 a7 a8 : Option Value} {x : Int32} {t : xL} (d : decode cc pc = .ok (.iload 9, 2)) (k : Ev E R own cc nL F (pc + 2) (a0 :: a1 :: a2 :: a3 :: a4 :: a5 :: a6 :: a7 :: a8 :: some (.int x) :: t) (.int x :: st) σ) : Ev E R own cc nL F pc (a0 :: a1 :: a2 :: a3 :: a4 :: a5 :: a6 :: a7 :: a8 :: some (.int x) :: t) st σ := by
  intro p l0 e s m args below meth c A cells slots Q H locs ls C hc hA hX hf hP hS hL
  exact lv_iload C.1 C.2.1 d (hL.get (i := 9) rfl) (k p l0 e s m args below meth c A cells slots Q H locs ls C hc hA hX hf hP hS hL)
theorem ev_lload_9 {a0 a1 a2 a3 a4 a5 a6 a7 a8 : Option Value} {x : Int64} {t : xL} (d : decode cc pc = .ok (.lload 9, 2)) (k : Ev E R own cc nL F (pc + 2) (a0 :: a1 :: a2 :: a3 :: a4 :: a5 :: a6 :: a7 :: a8 :: some (.long x) :: t) (.long x :: st) σ) : Ev E R own cc nL F pc (a0 :: a1 :: a2 :: a3 :: a4 :: a5 :: a6 :: a7 :: a8 :: some (.long x) :: t) st σ := by
  intro p l0 e s m args below meth c A cells slots Q H locs ls C hc hA hX hf hP hS hL
  exact lv_lload C.1 C.2.1 d (hL.get (i := 9) rfl) (k p l0 e s m args below meth c A cells slots Q H locs ls C hc hA hX hf hP hS hL)
theorem ev_aload_9 {a0 a1 a2 a3 a4 a5 a6 a7 a8 : Option Value} {x : Nat} {t : xL} (d : decode cc pc = .ok (.aload 9, 2)) (k : Ev E R own cc nL F (pc + 2) (a0 :: a1 :: a2 :: a3 :: a4 :: a5 :: a6 :: a7 :: a8 :: some (.ref x) :: t) (.ref x :: st) σ) : Ev E R own cc nL F pc (a0 :: a1 :: a2 :: a3 :: a4 :: a5 :: a6 :: a7 :: a8 :: some (.ref x) :: t) st σ := by
  intro p l0 e s m args below meth c A cells slots Q H locs ls C hc hA hX hf hP hS hL
  exact lv_aload C.1 C.2.1 d (hL.get (i := 9) rfl) (k p l0 e s m args below meth c A cells slots Q H locs ls C hc hA hX hf hP hS hL)
theorem ev_istore_9 {a0 a1 a2 a3 a4 a5 a6 a7 a8 : Option Value} {b : Option Value} {x : Int32} {t : xL} (d : decode cc pc = .ok (.istore 9, 2)) (hp : x_nl a8 = true) (k : Ev E R own cc nL F (pc + 2) (a0 :: a1 :: a2 :: a3 :: a4 :: a5 :: a6 :: a7 :: a8 :: some (.int x) :: t) st σ) : Ev E R own cc nL F pc (a0 :: a1 :: a2 :: a3 :: a4 :: a5 :: a6 :: a7 :: a8 :: b :: t) (.int x :: st) σ := by
  intro p l0 e s m args below meth c A cells slots Q H locs ls C hc hA hX hf hP hS hL
  have hi : 9 < (a0 :: a1 :: a2 :: a3 :: a4 :: a5 :: a6 :: a7 :: a8 :: b :: t).length := by simp
  refine lv_istore C.1 C.2.1 d hL.1 (by rw [← hL.2]; exact hi) rfl (fun ls2 h2 => ?_)
  exact k p l0 e s m args below meth c A cells slots Q H locs ls2 C hc hA hX hf hP hS (hL.setI (.int x) hi (fun w _ h => x_nl_ok hp w (Option.some.inj h)) h2)
theorem ev_astore_9 {a0 a1 a2 a3 a4 a5 a6 a7 a8 : Option Value} {b : Option Value} {x : Nat} {t : xL} (d : decode cc pc = .ok (.astore 9, 2)) (hp : x_nl a8 = true) (k : Ev E R own cc nL F (pc + 2) (a0 :: a1 :: a2 :: a3 :: a4 :: a5 :: a6 :: a7 :: a8 :: some (.ref x) :: t) st σ) : Ev E R own cc nL F pc (a0 :: a1 :: a2 :: a3 :: a4 :: a5 :: a6 :: a7 :: a8 :: b :: t) (.ref x :: st) σ := by
  intro p l0 e s m args below meth c A cells slots Q H locs ls C hc hA hX hf hP hS hL
  have hi : 9 < (a0 :: a1 :: a2 :: a3 :: a4 :: a5 :: a6 :: a7 :: a8 :: b :: t).length := by simp
  refine lv_astore C.1 C.2.1 d hL.1 (by rw [← hL.2]; exact hi) rfl (fun ls2 h2 => ?_)
  exact k p l0 e s m args below meth c A cells slots Q H locs ls2 C hc hA hX hf hP hS (hL.setI (.ref x) hi (fun w _ h => x_nl_ok hp w (Option.some.inj h)) h2)
theorem ev_lstore_9 {a0 a1 a2 a3 a4 a5 a6 a7 a8 : Option Value} {b b2 : Option Value} {x : Int64} {t : xL} (d : decode cc pc = .ok (.lstore 9, 2)) (hp : x_nl a8 = true) (k : Ev E R own cc nL F (pc + 2) (a0 :: a1 :: a2 :: a3 :: a4 :: a5 :: a6 :: a7 :: a8 :: some (.long x) :: none :: t) st σ) : Ev E R own cc nL F pc (a0 :: a1 :: a2 :: a3 :: a4 :: a5 :: a6 :: a7 :: a8 :: b :: b2 :: t) (.long x :: st) σ := by
  intro p l0 e s m args below meth c A cells slots Q H locs ls C hc hA hX hf hP hS hL
  have hi : 9 + 1 < (a0 :: a1 :: a2 :: a3 :: a4 :: a5 :: a6 :: a7 :: a8 :: b :: b2 :: t).length := by simp
  refine lv_lstore C.1 C.2.1 d hL.1 (by rw [← hL.2]; exact hi) rfl (fun ls2 h2 => ?_)
  exact k p l0 e s m args below meth c A cells slots Q H locs ls2 C hc hA hX hf hP hS (hL.setL (.long x) hi (fun w _ h => x_nl_ok hp w (Option.some.inj h)) h2)
theorem ev_iinc_9 {a0 a1 a2 a3 a4 a5 a6 a7 a8 : Option Value} {x : Int32} {n : Int} {t : xL} (v : Int32) (d : decode cc pc = .ok (.iinc 9 n, 3)) (hv : Int32.ofInt n = v) (hp : x_nl a8 = true) (k : Ev E R own cc nL F (pc + 3) (a0 :: a1 :: a2 :: a3 :: a4 :: a5 :: a6 :: a7 :: a8 :: some (.int (x + v)) :: t) st σ) : Ev E R own cc nL F pc (a0 :: a1 :: a2 :: a3 :: a4 :: a5 :: a6 :: a7 :: a8 :: some (.int x) :: t) st σ := by
  intro p l0 e s m args below meth c A cells slots Q H locs ls C hc hA hX hf hP hS hL
  have hi : 9 < (a0 :: a1 :: a2 :: a3 :: a4 :: a5 :: a6 :: a7 :: a8 :: some (.int x) :: t).length := by simp
  obtain ⟨kk, hkk⟩ := List.getElem?_of_mem ((xll_mem (a0 :: a1 :: a2 :: a3 :: a4 :: a5 :: a6 :: a7 :: a8 :: some (.int x) :: t) 0 9 (.int x)).mpr ⟨9, by omega, rfl⟩)
  refine lv_iinc (v := x + v) C.1 C.2.1 d hL.1 hkk (by rw [hv]) (by rw [← hL.2]; exact hi) rfl (fun ls2 h2 => ?_)
  exact k p l0 e s m args below meth c A cells slots Q H locs ls2 C hc hA hX hf hP hS (hL.setI (.int (x + v)) hi (fun w _ h => x_nl_ok hp w (Option.some.inj h)) h2)
theorem ev_iload_10 {a0 a1 a2 a3 a4 a5 a6 a7 a8 a9 : Option Value} {x : Int32} {t : xL} (d : decode cc pc = .ok (.iload 10, 2)) (k : Ev E R own cc nL F (pc + 2) (a0 :: a1 :: a2 :: a3 :: a4 :: a5 :: a6 :: a7 :: a8 :: a9 :: some (.int x) :: t) (.int x :: st) σ) : Ev E R own cc nL F pc (a0 :: a1 :: a2 :: a3 :: a4 :: a5 :: a6 :: a7 :: a8 :: a9 :: some (.int x) :: t) st σ := by
  intro p l0 e s m args below meth c A cells slots Q H locs ls C hc hA hX hf hP hS hL
  exact lv_iload C.1 C.2.1 d (hL.get (i := 10) rfl) (k p l0 e s m args below meth c A cells slots Q H locs ls C hc hA hX hf hP hS hL)
theorem ev_lload_10 {a0 a1 a2 a3 a4 a5 a6 a7 a8 a9 : Option Value} {x : Int64} {t : xL} (d : decode cc pc = .ok (.lload 10, 2)) (k : Ev E R own cc nL F (pc + 2) (a0 :: a1 :: a2 :: a3 :: a4 :: a5 :: a6 :: a7 :: a8 :: a9 :: some (.long x) :: t) (.long x :: st) σ) : Ev E R own cc nL F pc (a0 :: a1 :: a2 :: a3 :: a4 :: a5 :: a6 :: a7 :: a8 :: a9 :: some (.long x) :: t) st σ := by
  intro p l0 e s m args below meth c A cells slots Q H locs ls C hc hA hX hf hP hS hL
  exact lv_lload C.1 C.2.1 d (hL.get (i := 10) rfl) (k p l0 e s m args below meth c A cells slots Q H locs ls C hc hA hX hf hP hS hL)
theorem ev_aload_10 {a0 a1 a2 a3 a4 a5 a6 a7 a8 a9 : Option Value} {x : Nat} {t : xL} (d : decode cc pc = .ok (.aload 10, 2)) (k : Ev E R own cc nL F (pc + 2) (a0 :: a1 :: a2 :: a3 :: a4 :: a5 :: a6 :: a7 :: a8 :: a9 :: some (.ref x) :: t) (.ref x :: st) σ) : Ev E R own cc nL F pc (a0 :: a1 :: a2 :: a3 :: a4 :: a5 :: a6 :: a7 :: a8 :: a9 :: some (.ref x) :: t) st σ := by
  intro p l0 e s m args below meth c A cells slots Q H locs ls C hc hA hX hf hP hS hL
  exact lv_aload C.1 C.2.1 d (hL.get (i := 10) rfl) (k p l0 e s m args below meth c A cells slots Q H locs ls C hc hA hX hf hP hS hL)
theorem ev_istore_10 {a0 a1 a2 a3 a4 a5 a6 a7 a8 a9 : Option Value} {b : Option Value} {x : Int32} {t : xL} (d : decode cc pc = .ok (.istore 10, 2)) (hp : x_nl a9 = true) (k : Ev E R own cc nL F (pc + 2) (a0 :: a1 :: a2 :: a3 :: a4 :: a5 :: a6 :: a7 :: a8 :: a9 :: some (.int x) :: t) st σ) : Ev E R own cc nL F pc (a0 :: a1 :: a2 :: a3 :: a4 :: a5 :: a6 :: a7 :: a8 :: a9 :: b :: t) (.int x :: st) σ := by
  intro p l0 e s m args below meth c A cells slots Q H locs ls C hc hA hX hf hP hS hL
  have hi : 10 < (a0 :: a1 :: a2 :: a3 :: a4 :: a5 :: a6 :: a7 :: a8 :: a9 :: b :: t).length := by simp
  refine lv_istore C.1 C.2.1 d hL.1 (by rw [← hL.2]; exact hi) rfl (fun ls2 h2 => ?_)
  exact k p l0 e s m args below meth c A cells slots Q H locs ls2 C hc hA hX hf hP hS (hL.setI (.int x) hi (fun w _ h => x_nl_ok hp w (Option.some.inj h)) h2)
theorem ev_astore_10 {a0 a1 a2 a3 a4 a5 a6 a7 a8 a9 : Option Value} {b : Option Value} {x : Nat} {t : xL} (d : decode cc pc = .ok (.astore 10, 2)) (hp : x_nl a9 = true) (k : Ev E R own cc nL F (pc + 2) (a0 :: a1 :: a2 :: a3 :: a4 :: a5 :: a6 :: a7 :: a8 :: a9 :: some (.ref x) :: t) st σ) : Ev E R own cc nL F pc (a0 :: a1 :: a2 :: a3 :: a4 :: a5 :: a6 :: a7 :: a8 :: a9 :: b :: t) (.ref x :: st) σ := by
  intro p l0 e s m args below meth c A cells slots Q H locs ls C hc hA hX hf hP hS hL
  have hi : 10 < (a0 :: a1 :: a2 :: a3 :: a4 :: a5 :: a6 :: a7 :: a8 :: a9 :: b :: t).length := by simp
  refine lv_astore C.1 C.2.1 d hL.1 (by rw [← hL.2]; exact hi) rfl (fun ls2 h2 => ?_)
  exact k p l0 e s m args below meth c A cells slots Q H locs ls2 C hc hA hX hf hP hS (hL.setI (.ref x) hi (fun w _ h => x_nl_ok hp w (Option.some.inj h)) h2)
theorem ev_lstore_10 {a0 a1 a2 a3 a4 a5 a6 a7 a8 a9 : Option Value} {b b2 : Option Value} {x : Int64} {t : xL} (d : decode cc pc = .ok (.lstore 10, 2)) (hp : x_nl a9 = true) (k : Ev E R own cc nL F (pc + 2) (a0 :: a1 :: a2 :: a3 :: a4 :: a5 :: a6 :: a7 :: a8 :: a9 :: some (.long x) :: none :: t) st σ) : Ev E R own cc nL F pc (a0 :: a1 :: a2 :: a3 :: a4 :: a5 :: a6 :: a7 :: a8 :: a9 :: b :: b2 :: t) (.long x :: st) σ := by
  intro p l0 e s m args below meth c A cells slots Q H locs ls C hc hA hX hf hP hS hL
  have hi : 10 + 1 < (a0 :: a1 :: a2 :: a3 :: a4 :: a5 :: a6 :: a7 :: a8 :: a9 :: b :: b2 :: t).length := by simp
  refine lv_lstore C.1 C.2.1 d hL.1 (by rw [← hL.2]; exact hi) rfl (fun ls2 h2 => ?_)
  exact k p l0 e s m args below meth c A cells slots Q H locs ls2 C hc hA hX hf hP hS (hL.setL (.long x) hi (fun w _ h => x_nl_ok hp w (Option.some.inj h)) h2)
theorem ev_iinc_10 {a0 a1 a2 a3 a4 a5 a6 a7 a8 a9 : Option Value} {x : Int32} {n : Int} {t : xL} (v : Int32) (d : decode cc pc = .ok (.iinc 10 n, 3)) (hv : Int32.ofInt n = v) (hp : x_nl a9 = true) (k : Ev E R own cc nL F (pc + 3) (a0 :: a1 :: a2 :: a3 :: a4 :: a5 :: a6 :: a7 :: a8 :: a9 :: some (.int (x + v)) :: t) st σ) : Ev E R own cc nL F pc (a0 :: a1 :: a2 :: a3 :: a4 :: a5 :: a6 :: a7 :: a8 :: a9 :: some (.int x) :: t) st σ := by
  intro p l0 e s m args below meth c A cells slots Q H locs ls C hc hA hX hf hP hS hL
  have hi : 10 < (a0 :: a1 :: a2 :: a3 :: a4 :: a5 :: a6 :: a7 :: a8 :: a9 :: some (.int x) :: t).length := by simp
  obtain ⟨kk, hkk⟩ := List.getElem?_of_mem ((xll_mem (a0 :: a1 :: a2 :: a3 :: a4 :: a5 :: a6 :: a7 :: a8 :: a9 :: some (.int x) :: t) 0 10 (.int x)).mpr ⟨10, by omega, rfl⟩)
  refine lv_iinc (v := x + v) C.1 C.2.1 d hL.1 hkk (by rw [hv]) (by rw [← hL.2]; exact hi) rfl (fun ls2 h2 => ?_)
  exact k p l0 e s m args below meth c A cells slots Q H locs ls2 C hc hA hX hf hP hS (hL.setI (.int (x + v)) hi (fun w _ h => x_nl_ok hp w (Option.some.inj h)) h2)
theorem ev_iload_11 {a0 a1 a2 a3 a4 a5 a6 a7 a8 a9 a10 : Option Value} {x : Int32} {t : xL} (d : decode cc pc = .ok (.iload 11, 2)) (k : Ev E R own cc nL F (pc + 2) (a0 :: a1 :: a2 :: a3 :: a4 :: a5 :: a6 :: a7 :: a8 :: a9 :: a10 :: some (.int x) :: t) (.int x :: st) σ) : Ev E R own cc nL F pc (a0 :: a1 :: a2 :: a3 :: a4 :: a5 :: a6 :: a7 :: a8 :: a9 :: a10 :: some (.int x) :: t) st σ := by
  intro p l0 e s m args below meth c A cells slots Q H locs ls C hc hA hX hf hP hS hL
  exact lv_iload C.1 C.2.1 d (hL.get (i := 11) rfl) (k p l0 e s m args below meth c A cells slots Q H locs ls C hc hA hX hf hP hS hL)
theorem ev_lload_11 {a0 a1 a2 a3 a4 a5 a6 a7 a8 a9 a10 : Option Value} {x : Int64} {t : xL} (d : decode cc pc = .ok (.lload 11, 2)) (k : Ev E R own cc nL F (pc + 2) (a0 :: a1 :: a2 :: a3 :: a4 :: a5 :: a6 :: a7 :: a8 :: a9 :: a10 :: some (.long x) :: t) (.long x :: st) σ) : Ev E R own cc nL F pc (a0 :: a1 :: a2 :: a3 :: a4 :: a5 :: a6 :: a7 :: a8 :: a9 :: a10 :: some (.long x) :: t) st σ := by
  intro p l0 e s m args below meth c A cells slots Q H locs ls C hc hA hX hf hP hS hL
  exact lv_lload C.1 C.2.1 d (hL.get (i := 11) rfl) (k p l0 e s m args below meth c A cells slots Q H locs ls C hc hA hX hf hP hS hL)
theorem ev_aload_11 {a0 a1 a2 a3 a4 a5 a6 a7 a8 a9 a10 : Option Value} {x : Nat} {t : xL} (d : decode cc pc = .ok (.aload 11, 2)) (k : Ev E R own cc nL F (pc + 2) (a0 :: a1 :: a2 :: a3 :: a4 :: a5 :: a6 :: a7 :: a8 :: a9 :: a10 :: some (.ref x) :: t) (.ref x :: st) σ) : Ev E R own cc nL F pc (a0 :: a1 :: a2 :: a3 :: a4 :: a5 :: a6 :: a7 :: a8 :: a9 :: a10 :: some (.ref x) :: t) st σ := by
  intro p l0 e s m args below meth c A cells slots Q H locs ls C hc hA hX hf hP hS hL
  exact lv_aload C.1 C.2.1 d (hL.get (i := 11) rfl) (k p l0 e s m args below meth c A cells slots Q H locs ls C hc hA hX hf hP hS hL)
theorem ev_istore_11 {a0 a1 a2 a3 a4 a5 a6 a7 a8 a9 a10 : Option Value} {b : Option Value} {x : Int32} {t : xL} (d : decode cc pc = .ok (.istore 11, 2)) (hp : x_nl a10 = true) (k : Ev E R own cc nL F (pc + 2) (a0 :: a1 :: a2 :: a3 :: a4 :: a5 :: a6 :: a7 :: a8 :: a9 :: a10 :: some (.int x) :: t) st σ) : Ev E R own cc nL F pc (a0 :: a1 :: a2 :: a3 :: a4 :: a5 :: a6 :: a7 :: a8 :: a9 :: a10 :: b :: t) (.int x :: st) σ := by
  intro p l0 e s m args below meth c A cells slots Q H locs ls C hc hA hX hf hP hS hL
  have hi : 11 < (a0 :: a1 :: a2 :: a3 :: a4 :: a5 :: a6 :: a7 :: a8 :: a9 :: a10 :: b :: t).length := by simp
  refine lv_istore C.1 C.2.1 d hL.1 (by rw [← hL.2]; exact hi) rfl (fun ls2 h2 => ?_)
  exact k p l0 e s m args below meth c A cells slots Q H locs ls2 C hc hA hX hf hP hS (hL.setI (.int x) hi (fun w _ h => x_nl_ok hp w (Option.some.inj h)) h2)
theorem ev_astore_11 {a0 a1 a2 a3 a4 a5 a6 a7 a8 a9 a10 : Option Value} {b : Option Value} {x : Nat} {t : xL} (d : decode cc pc = .ok (.astore 11, 2)) (hp : x_nl a10 = true) (k : Ev E R own cc nL F (pc + 2) (a0 :: a1 :: a2 :: a3 :: a4 :: a5 :: a6 :: a7 :: a8 :: a9 :: a10 :: some (.ref x) :: t) st σ) : Ev E R own cc nL F pc (a0 :: a1 :: a2 :: a3 :: a4 :: a5 :: a6 :: a7 :: a8 :: a9 :: a10 :: b :: t) (.ref x :: st) σ := by
  intro p l0 e s m args below meth c A cells slots Q H locs ls C hc hA hX hf hP hS hL
  have hi : 11 < (a0 :: a1 :: a2 :: a3 :: a4 :: a5 :: a6 :: a7 :: a8 :: a9 :: a10 :: b :: t).length := by simp
  refine lv_astore C.1 C.2.1 d hL.1 (by rw [← hL.2]; exact hi) rfl (fun ls2 h2 => ?_)
  exact k p l0 e s m args below meth c A cells slots Q H locs ls2 C hc hA hX hf hP hS (hL.setI (.ref x) hi (fun w _ h => x_nl_ok hp w (Option.some.inj h)) h2)
theorem ev_lstore_11 {a0 a1 a2 a3 a4 a5 a6 a7 a8 a9 a10 : Option Value} {b b2 : Option Value} {x : Int64} {t : xL} (d : decode cc pc = .ok (.lstore 11, 2)) (hp : x_nl a10 = true) (k : Ev E R own cc nL F (pc + 2) (a0 :: a1 :: a2 :: a3 :: a4 :: a5 :: a6 :: a7 :: a8 :: a9 :: a10 :: some (.long x) :: none :: t) st σ) : Ev E R own cc nL F pc (a0 :: a1 :: a2 :: a3 :: a4 :: a5 :: a6 :: a7 :: a8 :: a9 :: a10 :: b :: b2 :: t) (.long x :: st) σ := by
  intro p l0 e s m args below meth c A cells slots Q H locs ls C hc hA hX hf hP hS hL
  have hi : 11 + 1 < (a0 :: a1 :: a2 :: a3 :: a4 :: a5 :: a6 :: a7 :: a8 :: a9 :: a10 :: b :: b2 :: t).length := by simp
  refine lv_lstore C.1 C.2.1 d hL.1 (by rw [← hL.2]; exact hi) rfl (fun ls2 h2 => ?_)
  exact k p l0 e s m args below meth c A cells slots Q H locs ls2 C hc hA hX hf hP hS (hL.setL (.long x) hi (fun w _ h => x_nl_ok hp w (Option.some.inj h)) h2)
theorem ev_iinc_11 {a0 a1 a2 a3 a4 a5 a6 a7 a8 a9 a10 : Option Value} {x : Int32} {n : Int} {t : xL} (v : Int32) (d : decode cc pc = .ok (.iinc 11 n, 3)) (hv : Int32.ofInt n = v) (hp : x_nl a10 = true) (k : Ev E R own cc nL F (pc + 3) (a0 :: a1 :: a2 :: a3 :: a4 :: a5 :: a6 :: a7 :: a8 :: a9 :: a10 :: some (.int (x + v)) :: t) st σ) : Ev E R own cc nL F pc (a0 :: a1 :: a2 :: a3 :: a4 :: a5 :: a6 :: a7 :: a8 :: a9 :: a10 :: some (.int x) :: t) st σ := by
  intro p l0 e s m args below meth c A cells slots Q H locs ls C hc hA hX hf hP hS hL
  have hi : 11 < (a0 :: a1 :: a2 :: a3 :: a4 :: a5 :: a6 :: a7 :: a8 :: a9 :: a10 :: some (.int x) :: t).length := by simp
  obtain ⟨kk, hkk⟩ := List.getElem?_of_mem ((xll_mem (a0 :: a1 :: a2 :: a3 :: a4 :: a5 :: a6 :: a7 :: a8 :: a9 :: a10 :: some (.int x) :: t) 0 11 (.int x)).mpr ⟨11, by omega, rfl⟩)
  refine lv_iinc (v := x + v) C.1 C.2.1 d hL.1 hkk (by rw [hv]) (by rw [← hL.2]; exact hi) rfl (fun ls2 h2 => ?_)
  exact k p l0 e s m args below meth c A cells slots Q H locs ls2 C hc hA hX hf hP hS (hL.setI (.int (x + v)) hi (fun w _ h => x_nl_ok hp w (Option.some.inj h)) h2)
theorem ev_iload_12 {a0 a1 a2 a3 a4 a5 a6 a7 a8 a9 a10 a11 : Option Value} {x : Int32} {t : xL} (d : decode cc pc = .ok (.iload 12, 2)) (k : Ev E R own cc nL F (pc + 2) (a0 :: a1 :: a2 :: a3 :: a4 :: a5 :: a6 :: a7 :: a8 :: a9 :: a10 :: a11 :: some (.int x) :: t) (.int x :: st) σ) : Ev E R own cc nL F pc (a0 :: a1 :: a2 :: a3 :: a4 :: a5 :: a6 :: a7 :: a8 :: a9 :: a10 :: a11 :: some (.int x) :: t) st σ := by
  intro p l0 e s m args below meth c A cells slots Q H locs ls C hc hA hX hf hP hS hL
  exact lv_iload C.1 C.2.1 d (hL.get (i := 12) rfl) (k p l0 e s m args below meth c A cells slots Q H locs ls C hc hA hX hf hP hS hL)
theorem ev_lload_12 {a0 a1 a2 a3 a4 a5 a6 a7 a8 a9 a10 a11 : Option Value} {x : Int64} {t : xL} (d : decode cc pc = .ok (.lload 12, 2)) (k : Ev E R own cc nL F (pc + 2) (a0 :: a1 :: a2 :: a3 :: a4 :: a5 :: a6 :: a7 :: a8 :: a9 :: a10 :: a11 :: some (.long x) :: t) (.long x :: st) σ) : Ev E R own cc nL F pc (a0 :: a1 :: a2 :: a3 :: a4 :: a5 :: a6 :: a7 :: a8 :: a9 :: a10 :: a11 :: some (.long x) :: t) st σ := by
  intro p l0 e s m args below meth c A cells slots Q H locs ls C hc hA hX hf hP hS hL
  exact lv_lload C.1 C.2.1 d (hL.get (i := 12) rfl) (k p l0 e s m args below meth c A cells slots Q H locs ls C hc hA hX hf hP hS hL)
theorem ev_aload_12 {a0 a1 a2 a3 a4 a5 a6 a7 a8 a9 a10 a11 : Option Value} {x : Nat} {t : xL} (d : decode cc pc = .ok (.aload 12, 2)) (k : Ev E R own cc nL F (pc + 2) (a0 :: a1 :: a2 :: a3 :: a4 :: a5 :: a6 :: a7 :: a8 :: a9 :: a10 :: a11 :: some (.ref x) :: t) (.ref x :: st) σ) : Ev E R own cc nL F pc (a0 :: a1 :: a2 :: a3 :: a4 :: a5 :: a6 :: a7 :: a8 :: a9 :: a10 :: a11 :: some (.ref x) :: t) st σ := by
  intro p l0 e s m args below meth c A cells slots Q H locs ls C hc hA hX hf hP hS hL
  exact lv_aload C.1 C.2.1 d (hL.get (i := 12) rfl) (k p l0 e s m args below meth c A cells slots Q H locs ls C hc hA hX hf hP hS hL)
theorem ev_istore_12 {a0 a1 a2 a3 a4 a5 a6 a7 a8 a9 a10 a11 : Option Value} {b : Option Value} {x : Int32} {t : xL} (d : decode cc pc = .ok (.istore 12, 2)) (hp : x_nl a11 = true) (k : Ev E R own cc nL F (pc + 2) (a0 :: a1 :: a2 :: a3 :: a4 :: a5 :: a6 :: a7 :: a8 :: a9 :: a10 :: a11 :: some (.int x) :: t) st σ) : Ev E R own cc nL F pc (a0 :: a1 :: a2 :: a3 :: a4 :: a5 :: a6 :: a7 :: a8 :: a9 :: a10 :: a11 :: b :: t) (.int x :: st) σ := by
  intro p l0 e s m args below meth c A cells slots Q H locs ls C hc hA hX hf hP hS hL
  have hi : 12 < (a0 :: a1 :: a2 :: a3 :: a4 :: a5 :: a6 :: a7 :: a8 :: a9 :: a10 :: a11 :: b :: t).length := by simp
  refine lv_istore C.1 C.2.1 d hL.1 (by rw [← hL.2]; exact hi) rfl (fun ls2 h2 => ?_)
  exact k p l0 e s m args below meth c A cells slots Q H locs ls2 C hc hA hX hf hP hS (hL.setI (.int x) hi (fun w _ h => x_nl_ok hp w (Option.some.inj h)) h2)
theorem ev_astore_12 {a0 a1 a2 a3 a4 a5 a6 a7 a8 a9 a10 a11 : Option Value} {b : Option Value} {x : Nat} {t : xL} (d : decode cc pc = .ok (.astore 12, 2)) (hp : x_nl a11 = true) (k : Ev E R own cc nL F (pc + 2) (a0 :: a1 :: a2 :: a3 :: a4 :: a5 :: a6 :: a7 :: a8 :: a9 :: a10 :: a11 :: some (.ref x) :: t) st σ) : Ev E R own cc nL F pc (a0 :: a1 :: a2 :: a3 :: a4 :: a5 :: a6 :: a7 :: a8 :: a9 :: a10 :: a11 :: b :: t) (.ref x :: st) σ := by
  intro p l0 e s m args below meth c A cells slots Q H locs ls C hc hA hX hf hP hS hL
  have hi : 12 < (a0 :: a1 :: a2 :: a3 :: a4 :: a5 :: a6 :: a7 :: a8 :: a9 :: a10 :: a11 :: b :: t).length := by simp
  refine lv_astore C.1 C.2.1 d hL.1 (by rw [← hL.2]; exact hi) rfl (fun ls2 h2 => ?_)
  exact k p l0 e s m args below meth c A cells slots Q H locs ls2 C hc hA hX hf hP hS (hL.setI (.ref x) hi (fun w _ h => x_nl_ok hp w (Option.some.inj h)) h2)
theorem ev_lstore_12 {a0 a1 a2 a3 a4 a5 a6 a7 a8 a9 a10 a11 : Option Value} {b b2 : Option Value} {x : Int64} {t : xL} (d : decode cc pc = .ok (.lstore 12, 2)) (hp : x_nl a11 = true) (k : Ev E R own cc nL F (pc + 2) (a0 :: a1 :: a2 :: a3 :: a4 :: a5 :: a6 :: a7 :: a8 :: a9 :: a10 :: a11 :: some (.long x) :: none :: t) st σ) : Ev E R own cc nL F pc (a0 :: a1 :: a2 :: a3 :: a4 :: a5 :: a6 :: a7 :: a8 :: a9 :: a10 :: a11 :: b :: b2 :: t) (.long x :: st) σ := by
  intro p l0 e s m args below meth c A cells slots Q H locs ls C hc hA hX hf hP hS hL
  have hi : 12 + 1 < (a0 :: a1 :: a2 :: a3 :: a4 :: a5 :: a6 :: a7 :: a8 :: a9 :: a10 :: a11 :: b :: b2 :: t).length := by simp
  refine lv_lstore C.1 C.2.1 d hL.1 (by rw [← hL.2]; exact hi) rfl (fun ls2 h2 => ?_)
  exact k p l0 e s m args below meth c A cells slots Q H locs ls2 C hc hA hX hf hP hS (hL.setL (.long x) hi (fun w _ h => x_nl_ok hp w (Option.some.inj h)) h2)
theorem ev_iinc_12 {a0 a1 a2 a3 a4 a5 a6 a7 a8 a9 a10 a11 : Option Value} {x : Int32} {n : Int} {t : xL} (v : Int32) (d : decode cc pc = .ok (.iinc 12 n, 3)) (hv : Int32.ofInt n = v) (hp : x_nl a11 = true) (k : Ev E R own cc nL F (pc + 3) (a0 :: a1 :: a2 :: a3 :: a4 :: a5 :: a6 :: a7 :: a8 :: a9 :: a10 :: a11 :: some (.int (x + v)) :: t) st σ) : Ev E R own cc nL F pc (a0 :: a1 :: a2 :: a3 :: a4 :: a5 :: a6 :: a7 :: a8 :: a9 :: a10 :: a11 :: some (.int x) :: t) st σ := by
  intro p l0 e s m args below meth c A cells slots Q H locs ls C hc hA hX hf hP hS hL
  have hi : 12 < (a0 :: a1 :: a2 :: a3 :: a4 :: a5 :: a6 :: a7 :: a8 :: a9 :: a10 :: a11 :: some (.int x) :: t).length := by simp
  obtain ⟨kk, hkk⟩ := List.getElem?_of_mem ((xll_mem (a0 :: a1 :: a2 :: a3 :: a4 :: a5 :: a6 :: a7 :: a8 :: a9 :: a10 :: a11 :: some (.int x) :: t) 0 12 (.int x)).mpr ⟨12, by omega, rfl⟩)
  refine lv_iinc (v := x + v) C.1 C.2.1 d hL.1 hkk (by rw [hv]) (by rw [← hL.2]; exact hi) rfl (fun ls2 h2 => ?_)
  exact k p l0 e s m args below meth c A cells slots Q H locs ls2 C hc hA hX hf hP hS (hL.setI (.int (x + v)) hi (fun w _ h => x_nl_ok hp w (Option.some.inj h)) h2)
theorem ev_iload_13 {a0 a1 a2 a3 a4 a5 a6 a7 a8 a9 a10 a11 a12 : Option Value} {x : Int32} {t : xL} (d : decode cc pc = .ok (.iload 13, 2)) (k : Ev E R own cc nL F (pc + 2) (a0 :: a1 :: a2 :: a3 :: a4 :: a5 :: a6 :: a7 :: a8 :: a9 :: a10 :: a11 :: a12 :: some (.int x) :: t) (.int x :: st) σ) : Ev E R own cc nL F pc (a0 :: a1 :: a2 :: a3 :: a4 :: a5 :: a6 :: a7 :: a8 :: a9 :: a10 :: a11 :: a12 :: some (.int x) :: t) st σ := by
  intro p l0 e s m args below meth c A cells slots Q H locs ls C hc hA hX hf hP hS hL
  exact lv_iload C.1 C.2.1 d (hL.get (i := 13) rfl) (k p l0 e s m args below meth c A cells slots Q H locs ls C hc hA hX hf hP hS hL)
theorem ev_lload_13 {a0 a1 a2 a3 a4 a5 a6 a7 a8 a9 a10 a11 a12 : Option Value} {x : Int64} {t : xL} (d : decode cc pc = .ok (.lload 13, 2)) (k : Ev E R own cc nL F (pc + 2) (a0 :: a1 :: a2 :: a3 :: a4 :: a5 :: a6 :: a7 :: a8 :: a9 :: a10 :: a11 :: a12 :: some (.long x) :: t) (.long x :: st) σ) : Ev E R own cc nL F pc (a0 :: a1 :: a2 :: a3 :: a4 :: a5 :: a6 :: a7 :: a8 :: a9 :: a10 :: a11 :: a12 :: some (.long x) :: t) st σ := by
  intro p l0 e s m args below meth c A cells slots Q H locs ls C hc hA hX hf hP hS hL
  exact lv_lload C.1 C.2.1 d (hL.get (i := 13) rfl) (k p l0 e s m args below meth c A cells slots Q H locs ls C hc hA hX hf hP hS hL)
theorem ev_aload_13 {a0 a1 a2 a3 a4 a5 a6 a7 a8 a9 a10 a11 a12 : Option Value} {x : Nat} {t : xL} (d : decode cc pc = .ok (.aload 13, 2)) (k : Ev E R own cc nL F (pc + 2) (a0 :: a1 :: a2 :: a3 :: a4 :: a5 :: a6 :: a7 :: a8 :: a9 :: a10 :: a11 :: a12 :: some (.ref x) :: t) (.ref x :: st) σ) : Ev E R own cc nL F pc (a0 :: a1 :: a2 :: a3 :: a4 :: a5 :: a6 :: a7 :: a8 :: a9 :: a10 :: a11 :: a12 :: some (.ref x) :: t) st σ := by
  intro p l0 e s m args below meth c A cells slots Q H locs ls C hc hA hX hf hP hS hL
  exact lv_aload C.1 C.2.1 d (hL.get (i := 13) rfl) (k p l0 e s m args below meth c A cells slots Q H locs ls C hc hA hX hf hP hS hL)
theorem ev_istore_13 {a0 a1 a2 a3 a4 a5 a6 a7 a8 a9 a10 a11 a12 : Option Value} {b : Option Value} {x : Int32} {t : xL} (d : decode cc pc = .ok (.istore 13, 2)) (hp : x_nl a12 = true) (k : Ev E R own cc nL F (pc + 2) (a0 :: a1 :: a2 :: a3 :: a4 :: a5 :: a6 :: a7 :: a8 :: a9 :: a10 :: a11 :: a12 :: some (.int x) :: t) st σ) : Ev E R own cc nL F pc (a0 :: a1 :: a2 :: a3 :: a4 :: a5 :: a6 :: a7 :: a8 :: a9 :: a10 :: a11 :: a12 :: b :: t) (.int x :: st) σ := by
  intro p l0 e s m args below meth c A cells slots Q H locs ls C hc hA hX hf hP hS hL
  have hi : 13 < (a0 :: a1 :: a2 :: a3 :: a4 :: a5 :: a6 :: a7 :: a8 :: a9 :: a10 :: a11 :: a12 :: b :: t).length := by simp
  refine lv_istore C.1 C.2.1 d hL.1 (by rw [← hL.2]; exact hi) rfl (fun ls2 h2 => ?_)
  exact k p l0 e s m args below meth c A cells slots Q H locs ls2 C hc hA hX hf hP hS (hL.setI (.int x) hi (fun w _ h => x_nl_ok hp w (Option.some.inj h)) h2)
theorem ev_astore_13 {a0 a1 a2 a3 a4 a5 a6 a7 a8 a9 a10 a11 a12 : Option Value} {b : Option Value} {x : Nat} {t : xL} (d : decode cc pc = .ok (.astore 13, 2)) (hp : x_nl a12 = true) (k : Ev E R own cc nL F (pc + 2) (a0 :: a1 :: a2 :: a3 :: a4 :: a5 :: a6 :: a7 :: a8 :: a9 :: a10 :: a11 :: a12 :: some (.ref x) :: t) st σ) : Ev E R own cc nL F pc (a0 :: a1 :: a2 :: a3 :: a4 :: a5 :: a6 :: a7 :: a8 :: a9 :: a10 :: a11 :: a12 :: b :: t) (.ref x :: st) σ := by
  intro p l0 e s m args below meth c A cells slots Q H locs ls C hc hA hX hf hP hS hL
  have hi : 13 < (a0 :: a1 :: a2 :: a3 :: a4 :: a5 :: a6 :: a7 :: a8 :: a9 :: a10 :: a11 :: a12 :: b :: t).length := by simp
  refine lv_astore C.1 C.2.1 d hL.1 (by rw [← hL.2]; exact hi) rfl (fun ls2 h2 => ?_)
  exact k p l0 e s m args below meth c A cells slots Q H locs ls2 C hc hA hX hf hP hS (hL.setI (.ref x) hi (fun w _ h => x_nl_ok hp w (Option.some.inj h)) h2)
theorem ev_lstore_13 {a0 a1 a2 a3 a4 a5 a6 a7 a8 a9 a10 a11 a12 : Option Value} {b b2 : Option Value} {x : Int64} {t : xL} (d : decode cc pc = .ok (.lstore 13, 2)) (hp : x_nl a12 = true) (k : Ev E R own cc nL F (pc + 2) (a0 :: a1 :: a2 :: a3 :: a4 :: a5 :: a6 :: a7 :: a8 :: a9 :: a10 :: a11 :: a12 :: some (.long x) :: none :: t) st σ) : Ev E R own cc nL F pc (a0 :: a1 :: a2 :: a3 :: a4 :: a5 :: a6 :: a7 :: a8 :: a9 :: a10 :: a11 :: a12 :: b :: b2 :: t) (.long x :: st) σ := by
  intro p l0 e s m args below meth c A cells slots Q H locs ls C hc hA hX hf hP hS hL
  have hi : 13 + 1 < (a0 :: a1 :: a2 :: a3 :: a4 :: a5 :: a6 :: a7 :: a8 :: a9 :: a10 :: a11 :: a12 :: b :: b2 :: t).length := by simp
  refine lv_lstore C.1 C.2.1 d hL.1 (by rw [← hL.2]; exact hi) rfl (fun ls2 h2 => ?_)
  exact k p l0 e s m args below meth c A cells slots Q H locs ls2 C hc hA hX hf hP hS (hL.setL (.long x) hi (fun w _ h => x_nl_ok hp w (Option.some.inj h)) h2)
theorem ev_iinc_13 {a0 a1 a2 a3 a4 a5 a6 a7 a8 a9 a10 a11 a12 : Option Value} {x : Int32} {n : Int} {t : xL} (v : Int32) (d : decode cc pc = .ok (.iinc 13 n, 3)) (hv : Int32.ofInt n = v) (hp : x_nl a12 = true) (k : Ev E R own cc nL F (pc + 3) (a0 :: a1 :: a2 :: a3 :: a4 :: a5 :: a6 :: a7 :: a8 :: a9 :: a10 :: a11 :: a12 :: some (.int (x + v)) :: t) st σ) : Ev E R own cc nL F pc (a0 :: a1 :: a2 :: a3 :: a4 :: a5 :: a6 :: a7 :: a8 :: a9 :: a10 :: a11 :: a12 :: some (.int x) :: t) st σ := by
  intro p l0 e s m args below meth c A cells slots Q H locs ls C hc hA hX hf hP hS hL
  have hi : 13 < (a0 :: a1 :: a2 :: a3 :: a4 :: a5 :: a6 :: a7 :: a8 :: a9 :: a10 :: a11 :: a12 :: some (.int x) :: t).length := by simp
  obtain ⟨kk, hkk⟩ := List.getElem?_of_mem ((xll_mem (a0 :: a1 :: a2 :: a3 :: a4 :: a5 :: a6 :: a7 :: a8 :: a9 :: a10 :: a11 :: a12 :: some (.int x) :: t) 0 13 (.int x)).mpr ⟨13, by omega, rfl⟩)
  refine lv_iinc (v := x + v) C.1 C.2.1 d hL.1 hkk (by rw [hv]) (by rw [← hL.2]; exact hi) rfl (fun ls2 h2 => ?_)
  exact k p l0 e s m args below meth c A cells slots Q H locs ls2 C hc hA hX hf hP hS (hL.setI (.int (x + v)) hi (fun w _ h => x_nl_ok hp w (Option.some.inj h)) h2)
def FK (own : String) (idx ci k : Nat) (fin : Bool) (ty : FieldType) : Prop := ∃ (C : String) (T : u_T) (N : Nat) (ty0 : Nat → FieldType), vwCl[ci]? = some (C, T, N) ∧ k < N ∧ (∀ w ∈ u_ws C T N, w ∈ xtbl) ∧ (∀ k, k < N → parseFieldDescriptor (T k).2.2.1 = some (ty0 k)) ∧ (∀ a, a < N → ∀ b, b < N → a ≠ b → (T a).2.1 ≠ (T b).2.1) ∧ (T k).2.2.2 = fin ∧ ty0 k = ty ∧
  (Cond.fieldLink own idx (T k).1 (T k).2.1 (T k).2.2.1 ∈ xtbl ∨ ∃ host, Cond.fieldLinkNest own idx (T k).1 (T k).2.1 (T k).2.2.1 host ∈ xnest)
theorem ev_get {i ci k idx : Nat} {fin : Bool} {ty : FieldType} {v : Value} (d : decode cc pc = .ok (.getfield idx, 3)) (fk : FK own idx ci k fin ty) (hi : i < xN ∧ xcls i = ci) (h7 : ci < 7) (hv : (xfs E (σ.1 i) (σ.2 i) ci i)[k]? = some v) (kk : Ev E R own cc nL F (pc + 3) l (v :: st) σ) : Ev E R own cc nL F pc l (.ref (E.1 i) :: st) σ := by
  intro p l0 e s m args below meth c A cells slots Q H locs ls C hc hA hX hf hP hS hL
  obtain ⟨Cn, T, N, ty0, h1, h2, h3, h4, h5, h6, h8, h9⟩ := fk
  rcases h9 with h9 | ⟨host, h9⟩
  · exact va_get C.1 C.2.1 C.2.2.2.2.1 h3 C.2.2.2.1 C.2.2.2.2.2.1 hP i (xw_getO E σ hi h7) h1 k h2 (C.2.2.2.2.1 _ h9) (fun _ h => h) hv d (kk p l0 e s m args below meth c A cells slots Q H locs ls C hc hA hX hf hP hS hL)
  · exact va_getN C.1 C.2.1 C.2.2.2.2.1 h3 C.2.2.2.1 C.2.2.2.2.2.1 hP i (xw_getO E σ hi h7) h1 k h2 ((C.2.2.2.2.2.2 _ h9).use rfl) (fun _ h => h) hv d (kk p l0 e s m args below meth c A cells slots Q H locs ls C hc hA hX hf hP hS hL)
theorem xint_out {c k i : Nat} {f : Nat → Int32} {g : Nat → Int64} (h : (xfs E f g c i).length ≤ k) : ¬ xint c k = true := by
  intro hk
  match c, h, hk with
  | 0, h, hk => simp [xint, xfs] at h hk; omega
  | 1, h, hk => simp [xint, xfs] at h hk; omega
  | 2, h, hk => simp [xint, xfs] at h hk; omega
  | 3, h, hk => simp [xint, xfs] at h hk; omega
  | 4, h, hk => simp [xint, xfs] at h hk; omega
  | 5, h, hk => simp [xint, xfs] at h hk; omega
  | 6, h, hk => simp [xint, xfs] at h hk; omega
  | c + 7, h, hk => simp [xint] at hk
theorem xlng_out {c k i : Nat} {f : Nat → Int32} {g : Nat → Int64} (h : (xfs E f g c i).length ≤ k) : ¬ xlng c k = true := by
  intro hk
  match c, h, hk with
  | 0, h, hk => simp [xlng] at hk
  | 1, h, hk => simp [xlng] at hk
  | 2, h, hk => simp [xlng] at hk
  | 3, h, hk => simp [xlng] at hk
  | 4, h, hk => simp [xlng] at hk
  | 5, h, hk => simp [xlng, xfs] at h hk; omega
  | 6, h, hk => simp [xlng, xfs] at h hk; omega
  | c + 7, h, hk => simp [xlng] at hk
theorem ev_put {i ci k idx : Nat} {v : Int32} (d : decode cc pc = .ok (.putfield idx, 3)) (fk : FK own idx ci k false .int) (hi : i < xN ∧ xcls i = ci) (h7 : ci < 7) (hk : xint ci k = true) (kk : Ev E R own cc nL F (pc + 3) l st (xu σ i k v)) : Ev E R own cc nL F pc l (.int v :: .ref (E.1 i) :: st) σ := by
  intro p l0 e s m args below meth c A cells slots Q H locs ls C hc hA hX hf hP hS hL
  obtain ⟨Cn, T, N, ty0, h1, h2, h3, h4, h5, h6, h8, h9⟩ := fk
  have hd : parseFieldDescriptor (T k).2.2.1 = some .int := by rw [← h8]; exact h4 k h2
  have hl : k < (xfs E (σ.1 i) (σ.2 i) ci i).length := by
    rcases Nat.lt_or_ge k (xfs E (σ.1 i) (σ.2 i) ci i).length with q | q
    · exact q
    · exact absurd hk (xint_out q)
  have kk2 : ∀ (H1 : Heap) (locs1 : List Loc), va_P E.2.1 vwCl ((xw E σ).set i (E.1 i, .inr (ci, (xfs E (σ.1 i) (σ.2 i) ci i).set k (.int v)))) H1 → va_D A ((xw E σ).set i (E.1 i, .inr (ci, (xfs E (σ.1 i) (σ.2 i) ci i).set k (.int v)))) → va_S A s.heap H1 locs1 → W p l0 e R s m args below meth c H1 locs1 cells slots Q (F0 m (pc + 3) ls st) := by
    intro H1 locs1 hP1 _ hS1
    rw [xw_setF E σ v hi h7 hk] at hP1
    exact kk p l0 e s m args below meth c A cells slots Q H1 locs1 ls C hc hA hX hf hP1 hS1 hL
  rcases h9 with h9 | ⟨host, h9⟩
  · exact va_put C.1 C.2.1 C.2.2.2.2.1 h3 ty0 h4 h5 C.2.2.2.1 C.2.2.2.2.2.1 hP (hA.va σ) hS i (xw_getO E σ hi h7) h1 k h2 (C.2.2.2.2.1 _ h9) (fun _ h => h) h6 hd rfl rfl hl d kk2
  · exact va_putN C.1 C.2.1 C.2.2.2.2.1 h3 ty0 h4 h5 C.2.2.2.1 C.2.2.2.2.2.1 hP (hA.va σ) hS i (xw_getO E σ hi h7) h1 k h2 ((C.2.2.2.2.2.2 _ h9).use rfl) (fun _ h => h) h6 hd rfl rfl hl d kk2
theorem ev_putZ {i ci k idx : Nat} {v : Int32} (d : decode cc pc = .ok (.putfield idx, 3)) (fk : FK own idx ci k false .boolean) (hi : i < xN ∧ xcls i = ci) (h7 : ci < 7) (hk : xint ci k = true) (hz : narrow .boolean (.int v) = .int v ∧ fits .boolean (.int v) = true) (kk : Ev E R own cc nL F (pc + 3) l st (xu σ i k v)) : Ev E R own cc nL F pc l (.int v :: .ref (E.1 i) :: st) σ := by
  intro p l0 e s m args below meth c A cells slots Q H locs ls C hc hA hX hf hP hS hL
  obtain ⟨Cn, T, N, ty0, h1, h2, h3, h4, h5, h6, h8, h9⟩ := fk
  have hd : parseFieldDescriptor (T k).2.2.1 = some .boolean := by rw [← h8]; exact h4 k h2
  have hl : k < (xfs E (σ.1 i) (σ.2 i) ci i).length := by
    rcases Nat.lt_or_ge k (xfs E (σ.1 i) (σ.2 i) ci i).length with q | q
    · exact q
    · exact absurd hk (xint_out q)
  have kk2 : ∀ (H1 : Heap) (locs1 : List Loc), va_P E.2.1 vwCl ((xw E σ).set i (E.1 i, .inr (ci, (xfs E (σ.1 i) (σ.2 i) ci i).set k (.int v)))) H1 → va_D A ((xw E σ).set i (E.1 i, .inr (ci, (xfs E (σ.1 i) (σ.2 i) ci i).set k (.int v)))) → va_S A s.heap H1 locs1 → W p l0 e R s m args below meth c H1 locs1 cells slots Q (F0 m (pc + 3) ls st) := by
    intro H1 locs1 hP1 _ hS1
    rw [xw_setF E σ v hi h7 hk] at hP1
    exact kk p l0 e s m args below meth c A cells slots Q H1 locs1 ls C hc hA hX hf hP1 hS1 hL
  rcases h9 with h9 | ⟨host, h9⟩
  · exact va_put C.1 C.2.1 C.2.2.2.2.1 h3 ty0 h4 h5 C.2.2.2.1 C.2.2.2.2.2.1 hP (hA.va σ) hS i (xw_getO E σ hi h7) h1 k h2 (C.2.2.2.2.1 _ h9) (fun _ h => h) h6 hd hz.1 hz.2 hl d kk2
  · exact va_putN C.1 C.2.1 C.2.2.2.2.1 h3 ty0 h4 h5 C.2.2.2.1 C.2.2.2.2.2.1 hP (hA.va σ) hS i (xw_getO E σ hi h7) h1 k h2 ((C.2.2.2.2.2.2 _ h9).use rfl) (fun _ h => h) h6 hd hz.1 hz.2 hl d kk2
theorem ev_putl {i ci k idx : Nat} {v : Int64} (d : decode cc pc = .ok (.putfield idx, 3)) (fk : FK own idx ci k false .long) (hi : i < xN ∧ xcls i = ci) (h7 : ci < 7) (hk : xlng ci k = true) (kk : Ev E R own cc nL F (pc + 3) l st (xul σ i k v)) : Ev E R own cc nL F pc l (.long v :: .ref (E.1 i) :: st) σ := by
  intro p l0 e s m args below meth c A cells slots Q H locs ls C hc hA hX hf hP hS hL
  obtain ⟨Cn, T, N, ty0, h1, h2, h3, h4, h5, h6, h8, h9⟩ := fk
  have hd : parseFieldDescriptor (T k).2.2.1 = some .long := by rw [← h8]; exact h4 k h2
  have hl : k < (xfs E (σ.1 i) (σ.2 i) ci i).length := by
    rcases Nat.lt_or_ge k (xfs E (σ.1 i) (σ.2 i) ci i).length with q | q
    · exact q
    · exact absurd hk (xlng_out q)
  have kk2 : ∀ (H1 : Heap) (locs1 : List Loc), va_P E.2.1 vwCl ((xw E σ).set i (E.1 i, .inr (ci, (xfs E (σ.1 i) (σ.2 i) ci i).set k (.long v)))) H1 → va_D A ((xw E σ).set i (E.1 i, .inr (ci, (xfs E (σ.1 i) (σ.2 i) ci i).set k (.long v)))) → va_S A s.heap H1 locs1 → W p l0 e R s m args below meth c H1 locs1 cells slots Q (F0 m (pc + 3) ls st) := by
    intro H1 locs1 hP1 _ hS1
    rw [xw_setL E σ v hi h7 hk] at hP1
    exact kk p l0 e s m args below meth c A cells slots Q H1 locs1 ls C hc hA hX hf hP1 hS1 hL
  rcases h9 with h9 | ⟨host, h9⟩
  · exact va_put C.1 C.2.1 C.2.2.2.2.1 h3 ty0 h4 h5 C.2.2.2.1 C.2.2.2.2.2.1 hP (hA.va σ) hS i (xw_getO E σ hi h7) h1 k h2 (C.2.2.2.2.1 _ h9) (fun _ h => h) h6 hd rfl rfl hl d kk2
  · exact va_putN C.1 C.2.1 C.2.2.2.2.1 h3 ty0 h4 h5 C.2.2.2.1 C.2.2.2.2.2.1 hP (hA.va σ) hS i (xw_getO E σ hi h7) h1 k h2 ((C.2.2.2.2.2.2 _ h9).use rfl) (fun _ h => h) h6 hd rfl rfl hl d kk2
theorem ev_iaload {i : Nat} {j : Int32} (d : decode cc pc = .ok (.iaload, 1)) (hi : i < xN ∧ xcls i = 7) (hj : vp_in j (xlen i)) (k : Ev E R own cc nL F (pc + 1) l (.int (σ.1 i j.toNatClampNeg) :: st) σ) : Ev E R own cc nL F pc l (.int j :: .ref (E.1 i) :: st) σ := by
  intro p l0 e s m args below meth c A cells slots Q H locs ls C hc hA hX hf hP hS hL
  exact va_iald C.1 C.2.1 C.2.2.2.2.2.1 hP i 0 (xw_getI E σ hi) rfl hj d (k p l0 e s m args below meth c A cells slots Q H locs ls C hc hA hX hf hP hS hL)
theorem ev_baload {i : Nat} {j : Int32} (d : decode cc pc = .ok (.baload, 1)) (hi : i < xN ∧ xcls i = 8) (hj : vp_in j (xlen i)) (k : Ev E R own cc nL F (pc + 1) l (.int (σ.1 i j.toNatClampNeg) :: st) σ) : Ev E R own cc nL F pc l (.int j :: .ref (E.1 i) :: st) σ := by
  intro p l0 e s m args below meth c A cells slots Q H locs ls C hc hA hX hf hP hS hL
  exact va_zald C.1 C.2.1 C.2.2.2.2.2.1 hP i 1 (xw_getZ E σ hi) rfl hj d (k p l0 e s m args below meth c A cells slots Q H locs ls C hc hA hX hf hP hS hL)
theorem ev_iastore {i : Nat} {j v : Int32} (d : decode cc pc = .ok (.iastore, 1)) (hi : i < xN ∧ xcls i = 7) (hj : vp_in j (xlen i)) (k : Ev E R own cc nL F (pc + 1) l st (xu σ i j.toNatClampNeg v)) : Ev E R own cc nL F pc l (.int v :: .int j :: .ref (E.1 i) :: st) σ := by
  intro p l0 e s m args below meth c A cells slots Q H locs ls C hc hA hX hf hP hS hL
  refine va_iast C.1 C.2.1 C.2.2.2.2.2.1 hP (hA.va σ) hS i 0 (xw_getI E σ hi) rfl hj d (fun H1 locs1 hP1 _ hS1 => ?_)
  rw [xw_setI E σ v hi] at hP1
  exact k p l0 e s m args below meth c A cells slots Q H1 locs1 ls C hc hA hX hf hP1 hS1 hL
theorem ev_bastore {i : Nat} {j v : Int32} (d : decode cc pc = .ok (.bastore, 1)) (hi : i < xN ∧ xcls i = 8) (hj : vp_in j (xlen i)) (hz : vp_nar .boolean v = v) (k : Ev E R own cc nL F (pc + 1) l st (xu σ i j.toNatClampNeg v)) : Ev E R own cc nL F pc l (.int v :: .int j :: .ref (E.1 i) :: st) σ := by
  intro p l0 e s m args below meth c A cells slots Q H locs ls C hc hA hX hf hP hS hL
  refine va_zast C.1 C.2.1 C.2.2.2.2.2.1 hP (hA.va σ) hS i 1 (xw_getZ E σ hi) rfl hj d (fun H1 locs1 hP1 _ hS1 => ?_)
  rw [hz, xw_setZ E σ v hi] at hP1
  exact k p l0 e s m args below meth c A cells slots Q H1 locs1 ls C hc hA hX hf hP1 hS1 hL
theorem ev_arraylength {i : Nat} (d : decode cc pc = .ok (.arraylength, 1)) (hi : i < xN ∧ xcls i = 7) (k : Ev E R own cc nL F (pc + 1) l (.int (Int32.ofNat (xlen i)) :: st) σ) : Ev E R own cc nL F pc l (.ref (E.1 i) :: st) σ := by
  intro p l0 e s m args below meth c A cells slots Q H locs ls C hc hA hX hf hP hS hL
  exact va_alen C.1 C.2.1 C.2.2.2.2.2.1 hP i 0 (xw_getI E σ hi) (ty := .int) rfl rfl d (k p l0 e s m args below meth c A cells slots Q H locs ls C hc hA hX hf hP hS hL)
theorem ev_mmax {idx : Nat} {x y : Int32} (d : decode cc pc = .ok (.invokestatic idx, 3)) (w : Cond.methodLink own idx Lib.Math.max.name ∈ xtbl ∧ Cond.static Lib.Math.max.name ∈ xtbl ∧ Cond.initialized "java/lang/Math" ∈ xtbl ∧ Cond.code Lib.Math.max.name Lib.Math.max.code 2 (some .int) ∈ xtbl) (hR : 1 ≤ R.frames ∧ 21 ≤ R.locals) (hst : (st.map fun v => v.category).sum ≤ 8) (k : Ev E R own cc nL F (pc + 3) l (.int (if x < y then y else x) :: st) σ) : Ev E R own cc nL F pc l (.int y :: .int x :: st) σ := by
  intro p l0 e s m args below meth c A cells slots Q H locs ls C hc hA hX hf hP hS hL
  exact va_mmax C.1 C.2.1 (C.2.2.1.trans hL.1.1.symm) C.2.2.2.1 (C.2.2.2.2.1 _ w.1) (C.2.2.2.2.1 _ w.2.1) (C.2.2.2.2.1 _ w.2.2.1) (C.2.2.2.2.1 _ w.2.2.2) hR.1 (by omega) hc.1 hc.2 d (k p l0 e s m args below meth c A cells slots Q H locs ls C hc hA hX hf hP hS hL)
theorem ev_mmin {idx : Nat} {x y : Int32} (d : decode cc pc = .ok (.invokestatic idx, 3)) (w : Cond.methodLink own idx Lib.Math.min.name ∈ xtbl ∧ Cond.static Lib.Math.min.name ∈ xtbl ∧ Cond.initialized "java/lang/Math" ∈ xtbl ∧ Cond.code Lib.Math.min.name Lib.Math.min.code 2 (some .int) ∈ xtbl) (hR : 1 ≤ R.frames ∧ 21 ≤ R.locals) (hst : (st.map fun v => v.category).sum ≤ 8) (k : Ev E R own cc nL F (pc + 3) l (.int (if y < x then y else x) :: st) σ) : Ev E R own cc nL F pc l (.int y :: .int x :: st) σ := by
  intro p l0 e s m args below meth c A cells slots Q H locs ls C hc hA hX hf hP hS hL
  exact va_mmin C.1 C.2.1 (C.2.2.1.trans hL.1.1.symm) C.2.2.2.1 (C.2.2.2.2.1 _ w.1) (C.2.2.2.2.1 _ w.2.1) (C.2.2.2.2.1 _ w.2.2.1) (C.2.2.2.2.1 _ w.2.2.2) hR.1 (by omega) hc.1 hc.2 d (k p l0 e s m args below meth c A cells slots Q H locs ls C hc hA hX hf hP hS hL)
theorem ev_mabs {idx : Nat} {x : Int32} (d : decode cc pc = .ok (.invokestatic idx, 3)) (w : Cond.methodLink own idx Lib.Math.abs.name ∈ xtbl ∧ Cond.static Lib.Math.abs.name ∈ xtbl ∧ Cond.initialized "java/lang/Math" ∈ xtbl ∧ Cond.code Lib.Math.abs.name Lib.Math.abs.code 1 (some .int) ∈ xtbl) (hR : 1 ≤ R.frames ∧ 21 ≤ R.locals) (hst : (st.map fun v => v.category).sum ≤ 8) (k : Ev E R own cc nL F (pc + 3) l (.int (if 0 ≤ x then x else 0 - x) :: st) σ) : Ev E R own cc nL F pc l (.int x :: st) σ := by
  intro p l0 e s m args below meth c A cells slots Q H locs ls C hc hA hX hf hP hS hL
  exact va_mabs C.1 C.2.1 (C.2.2.1.trans hL.1.1.symm) C.2.2.2.1 (C.2.2.2.2.1 _ w.1) (C.2.2.2.2.1 _ w.2.1) (C.2.2.2.2.1 _ w.2.2.1) (C.2.2.2.2.1 _ w.2.2.2) hR.1 (by omega) hc.1 hc.2 d (k p l0 e s m args below meth c A cells slots Q H locs ls C hc hA hX hf hP hS hL)
theorem ev_copy {idx i0 i1 : Nat} {sp dp n : Int32} (d : decode cc pc = .ok (.invokestatic idx, 3)) (w : Cond.methodLink own idx arraycopyName ∈ xtbl ∧ Cond.native arraycopyName ∈ xtbl ∧ Cond.static arraycopyName ∈ xtbl ∧ Cond.initialized "java/lang/System" ∈ xtbl) (hR : 1 ≤ R.frames ∧ 100 ≤ R.locals) (hst : (st.map fun v => v.category).sum ≤ 8) (hi0 : i0 < xN ∧ xcls i0 = 7) (hi1 : i1 < xN ∧ xcls i1 = 7)
    (h1 : ¬ sp < 0) (h2 : ¬ dp < 0) (h3 : ¬ n < 0) (h4 : sp.toNatClampNeg + n.toNatClampNeg ≤ xlen i0) (h5 : dp.toNatClampNeg + n.toNatClampNeg ≤ xlen i1) (k : Ev E R own cc nL F (pc + 3) l st (xrow σ i1 (va_cpy (σ.1 i0) (σ.1 i1) sp.toNatClampNeg dp.toNatClampNeg n.toNatClampNeg))) : Ev E R own cc nL F pc l (.int n :: .int dp :: .ref (E.1 i1) :: .int sp :: .ref (E.1 i0) :: st) σ := by
  intro p l0 e s m args below meth c A cells slots Q H locs ls C hc hA hX hf hP hS hL
  refine va_copyi C.1 C.2.1 (C.2.2.1.trans hL.1.1.symm) C.2.2.2.1 (C.2.2.2.2.1 _ w.1) (C.2.2.2.2.1 _ w.2.1) (C.2.2.2.2.1 _ w.2.2.1) (C.2.2.2.2.1 _ w.2.2.2) C.2.2.2.2.2.1 hP (hA.va σ) hS i0 i1 0 0 (xw_getI E σ hi0) (xw_getI E σ hi1) (ty := .int) rfl rfl rfl h1 h2 h3 h4 h5 (fun _ _ => rfl) hR.1 ?_ d (fun H1 locs1 hP1 _ hS1 => ?_)
  · have hw : nativeFrameWords "java/lang/System" "arraycopy" 5 ≤ 80 := by decide +kernel
    omega
  · rw [xw_setRow E σ _ hi1] at hP1
    exact k p l0 e s m args below meth c A cells slots Q H1 locs1 ls C hc hA hX hf hP1 hS1 hL
theorem x_call {p : Program} {l0 : Launch} {e : Env} {s : State} {m : MethodId} {args : Array Value} {below : List Frame} {meth : Method} {c : Code} {A : Nat → Prop} {cells slots : Nat} {Q : State → Prop} {H : Heap} {locs : List Loc} {ls : Array Slot} {st0 rest : List Value} {a : Array Value} {r : Option Value} {σ' : xS}
    (hr : va_Run p l0 e R s m args below meth c H locs cells slots 0 0 (F0 m pc ls st0) rest (xPost E r σ' a) (xA E)) (hS : va_S A s.heap H locs) (hA : xD E A)
    (kk : ∀ (H1 : Heap) (locs1 : List Loc), va_P E.2.1 vwCl (xw E σ') H1 → va_S A s.heap H1 locs1 → W p l0 e R s m args below meth c H1 locs1 cells slots Q (F0 m (pc + 3) ls (r.toList ++ rest))) : W p l0 e R s m args below meth c H locs cells slots Q (F0 m pc ls st0) := by
  intro T hT X
  have hAA : ∀ q, xA E q → A q := fun q h => by obtain ⟨i, h1, h2⟩ := h; rw [h2]; exact hA.2 i h1
  obtain ⟨v, st₀, t, T', L, h0, X', hL, e1, e2, ⟨⟨hv, hb⟩, hz, hk⟩, hst⟩ := hr T hT X
  cases hv
  rw [h0] at hz hk
  obtain ⟨t2, a1, b1⟩ := kk T'.heap (locs ++ L) (by rw [e1]; exact hb)
    ⟨Nat.le_trans hS.1 (by rw [e1]; exact hz), fun q h1 h2 => by rw [e1, hk q (Nat.lt_of_lt_of_le h1 hS.1) (fun z => h2 (hAA q z))]; exact hS.2.1 q h1 h2, fun q hq => by
      rcases List.mem_append.mp hq with h | h
      · exact hS.2.2 q h
      · exact hAA _ (hL q h)⟩ T' rfl X'
  exact ⟨t2, hst t2 a1, b1⟩
theorem x_pre {s : State} {A : Nat → Prop} {H : Heap} {locs : List Loc} {as : List Value} (hP : va_P E.2.1 vwCl (xw E σ) H) (hS : va_S A s.heap H locs) (hA : xD E A) (hX : xX E A s s.heap) (hK : va_K E.2.1 vwCl (xtys E) s) (hN : xNst s) : ∀ U : State, U.heap = H → s.WarmedH U.vm → va_Pc as (xPre E σ) as.toArray U := by
  intro U hU hW
  refine ⟨rfl, by rw [hU]; exact hP, va_K.moved hW.alike hK, ⟨hA.1, fun i hi => ⟨i, hi, rfl⟩⟩, hN.warm hW, ?_⟩
  rw [hU]
  exact ((hX.kept (fun a h1 h2 => hS.2.1 a h1 h2)).narrow (fun q h => by obtain ⟨i, h1, h2⟩ := h; rw [h2]; exact hA.2 i h1)).warm hW
def ML (own : String) (idx : Nat) (y : MethodName) : Prop := Cond.methodLink own idx y ∈ xtbl ∨ ∃ host, Cond.methodLinkNest own idx y host ∈ xnest
def MK (y : MethodName) (bytes : ByteArray) (maxL : Nat) (ret : Option FieldType) (n : Nat) : Prop := Cond.initialized y.cls ∈ xtbl ∧ Cond.code y bytes maxL ret ∈ xtbl ∧ (y.cls ≠ "java/lang/invoke/MethodHandle" ∧ y.cls ≠ "java/lang/invoke/VarHandle" ∧ (parseMethodDescriptor y.desc).map (fun d => d.parameters.length) = some n) ∧ maxL ≤ 180
def MV (y : MethodName) (bytes : ByteArray) (maxL : Nat) (ret : Option FieldType) (n : Nat) : Prop := MK y bytes maxL ret n ∧ Cond.instanceMethod y ∈ xtbl ∧ Cond.selects y.cls y y ∈ xtbl
def MS (y : MethodName) (bytes : ByteArray) (maxL : Nat) (ret : Option FieldType) (n : Nat) : Prop := MK y bytes maxL ret n ∧ Cond.static y ∈ xtbl
theorem ev_invV {idx i ci d' n maxL : Nat} {y : MethodName} {bytes : ByteArray} {ret : Option FieldType} {as st0 : List Value} {r : Option Value} {σ' : xS} (d : decode cc pc = .ok (.invokevirtual idx, 3)) (ml : ML own idx y) (mv : MV y bytes maxL ret n) (ct : Ct E d' y bytes maxL ret (.ref (E.1 i) :: as) σ r σ') (hi : i < xN ∧ xcls i = ci) (h7 : ci < 7) (hcl : (vwCl[ci]?).map (fun q => q.1) = some y.cls) (hn : as.length = n) (hst : st0 = as.reverse ++ .ref (E.1 i) :: st) (hR : d' + 1 ≤ R.frames ∧ 200 * (d' + 1) ≤ R.locals) (hw : (st.map fun v => v.category).sum ≤ 8)
    (k : Ev E R own cc nL F (pc + 3) l (r.toList ++ st) σ') : Ev E R own cc nL F pc l st0 σ := by
  intro p l0 e s m args below meth c A cells slots Q H locs ls C hc hA hX hf hP hS hL
  obtain ⟨⟨hini, hcode, hy, hmx⟩, hinst, hsel⟩ := mv
  have hts := C.2.2.2.2.1
  have hfr : (rm d').frames + 1 ≤ R.frames ∧ 8 + (maxL + 11) + (rm d').locals ≤ R.locals := ⟨hR.1, by show 8 + (maxL + 11) + 200 * d' ≤ R.locals; omega⟩
  obtain ⟨q, hq, hq1⟩ : ∃ q, vwCl[ci]? = some q ∧ q.1 = y.cls := by
    cases hh : vwCl[ci]? with
    | none => rw [hh] at hcl; cases hcl
    | some q => rw [hh] at hcl; exact ⟨q, rfl, Option.some.inj hcl⟩
  have hrec := va_recv C.2.2.2.2.2.1 hP (ci := ci) (q0 := i) hq (xw_getO E σ hi h7)
  rw [hq1] at hrec
  refine x_call (r := r) (σ' := σ') (rest := st) (a := (Value.ref (E.1 i) :: as).toArray) ?_ hS hA (fun H1 locs1 hP1 hS1 => k p l0 e s m args below meth c A cells slots Q H1 locs1 ls C hc hA hX hf hP1 hS1 hL)
  rcases ml with ml | ⟨host, ml⟩
  · exact va_runV (As := as) (rest := st) ⟨C.1, C.2.1, C.2.2.1, C.2.2.2.1, hts⟩ (ct l0) ⟨callB_of n hts (x_goodIn' hcode) rfl rfl rfl (hts _ hini) (hts _ ml) hy hfr, hts _ hinst, hts _ hsel⟩ ⟨xPc_blind, hrec, x_pre hP hS hA hX C.2.2.2.2.2.1 C.2.2.2.2.2.2⟩ rfl hn hL.1.1 hst (lv_room hw) d ⟨hc.1, hc.2⟩
  · exact va_runVN (As := as) (rest := st) ⟨C.1, C.2.1, C.2.2.1, C.2.2.2.1, hts⟩ (ct l0) ⟨va_cnB n hts (x_goodIn' hcode) rfl rfl rfl (C.2.2.2.2.2.2 _ ml) (hts _ hini) hy hfr, hts _ hinst, hts _ hsel⟩ ⟨xPc_blind, hrec, x_pre hP hS hA hX C.2.2.2.2.2.1 C.2.2.2.2.2.2⟩ rfl hn hL.1.1 hst (lv_room hw) d ⟨hc.1, hc.2⟩
theorem ev_invS {idx d' n maxL : Nat} {y : MethodName} {bytes : ByteArray} {ret : Option FieldType} {as st0 : List Value} {r : Option Value} {σ' : xS} (d : decode cc pc = .ok (.invokestatic idx, 3)) (ml : ML own idx y) (mv : MS y bytes maxL ret n) (ct : Ct E d' y bytes maxL ret as σ r σ') (hn : as.length = n) (hst : st0 = as.reverse ++ st) (hR : d' + 1 ≤ R.frames ∧ 200 * (d' + 1) ≤ R.locals) (hw : (st.map fun v => v.category).sum ≤ 8)
    (k : Ev E R own cc nL F (pc + 3) l (r.toList ++ st) σ') : Ev E R own cc nL F pc l st0 σ := by
  intro p l0 e s m args below meth c A cells slots Q H locs ls C hc hA hX hf hP hS hL
  obtain ⟨⟨hini, hcode, hy, hmx⟩, hstat⟩ := mv
  have hts := C.2.2.2.2.1
  have hfr : (rm d').frames + 1 ≤ R.frames ∧ 8 + (maxL + 11) + (rm d').locals ≤ R.locals := ⟨hR.1, by show 8 + (maxL + 11) + 200 * d' ≤ R.locals; omega⟩
  refine x_call (r := r) (σ' := σ') (rest := st) (a := as.toArray) ?_ hS hA (fun H1 locs1 hP1 hS1 => k p l0 e s m args below meth c A cells slots Q H1 locs1 ls C hc hA hX hf hP1 hS1 hL)
  rcases ml with ml | ⟨host, ml⟩
  · exact va_runS (As := as) (rest := st) ⟨C.1, C.2.1, C.2.2.1, C.2.2.2.1, hts⟩ (ct l0) ⟨callB_of n hts (x_goodIn' hcode) rfl rfl rfl (hts _ hini) (hts _ ml) hy hfr, hts _ hstat⟩ ⟨xPc_blind, x_pre hP hS hA hX C.2.2.2.2.2.1 C.2.2.2.2.2.2⟩ rfl hn hL.1.1 hst (lv_room hw) d ⟨hc.1, hc.2⟩
  · exact va_runSN (As := as) (rest := st) ⟨C.1, C.2.1, C.2.2.1, C.2.2.2.1, hts⟩ (ct l0) ⟨va_cnB n hts (x_goodIn' hcode) rfl rfl rfl (C.2.2.2.2.2.2 _ ml) (hts _ hini) hy hfr, hts _ hstat, trivial⟩ ⟨xPc_blind, x_pre hP hS hA hX C.2.2.2.2.2.1 C.2.2.2.2.2.2⟩ rfl hn hL.1.1 hst (lv_room hw) d ⟨hc.1, hc.2⟩
end
end
section
theorem hin_X0 : ∀ w ∈ u_ws RX0 TX0 3, w ∈ xtbl := x_inw (by decide +kernel) (by decide +kernel)
theorem hin_X1 : ∀ w ∈ u_ws RX1 TX1 2, w ∈ xtbl := x_inw (by decide +kernel) (by decide +kernel)
theorem hin_X2 : ∀ w ∈ u_ws RX2 TX2 9, w ∈ xtbl := x_inw (by decide +kernel) (by decide +kernel)
theorem hin_X3 : ∀ w ∈ u_ws RX3 TX3 6, w ∈ xtbl := x_inw (by decide +kernel) (by decide +kernel)
theorem hin_X4 : ∀ w ∈ u_ws RX4 TX4 12, w ∈ xtbl := x_inw (by decide +kernel) (by decide +kernel)
theorem hin_X5 : ∀ w ∈ u_ws RX5 TX5 13, w ∈ xtbl := x_inw (by decide +kernel) (by decide +kernel)
theorem hin_X6 : ∀ w ∈ u_ws RX6 TX6 18, w ∈ xtbl := x_inw (by decide +kernel) (by decide +kernel)
theorem ml_L_9 : ML RL 9 yX5_init := Or.inl (x_in 115 (by decide +kernel) rfl)
theorem ml_X5_9 : ML RX5 9 yX3_init := Or.inr ⟨"PledgeWindow", x_nin 123 (by decide +kernel) rfl⟩
theorem ml_X3_11 : ML RX3 11 yX4_init := Or.inr ⟨"PledgeWindow", x_nin 129 (by decide +kernel) rfl⟩
theorem fk_X4_9 : FK RX4 9 4 0 true (.array .int) := ⟨RX4, TX4, 12, tyX4, rfl, by decide, hin_X4, tyX4_ok, nmX4, rfl, rfl, Or.inl (x_in 133 (by decide +kernel) rfl)⟩
theorem fk_X5_212 : FK RX5 212 4 0 true (.array .int) := ⟨RX4, TX4, 12, tyX4, rfl, by decide, hin_X4, tyX4_ok, nmX4, rfl, rfl, Or.inr ⟨"PledgeWindow", x_nin 134 (by decide +kernel) rfl⟩⟩
theorem fk_X4_15 : FK RX4 15 4 1 true (.array .int) := ⟨RX4, TX4, 12, tyX4, rfl, by decide, hin_X4, tyX4_ok, nmX4, rfl, rfl, Or.inl (x_in 135 (by decide +kernel) rfl)⟩
theorem fk_X5_215 : FK RX5 215 4 1 true (.array .int) := ⟨RX4, TX4, 12, tyX4, rfl, by decide, hin_X4, tyX4_ok, nmX4, rfl, rfl, Or.inr ⟨"PledgeWindow", x_nin 136 (by decide +kernel) rfl⟩⟩
theorem fk_X4_18 : FK RX4 18 4 2 true (.array .int) := ⟨RX4, TX4, 12, tyX4, rfl, by decide, hin_X4, tyX4_ok, nmX4, rfl, rfl, Or.inl (x_in 137 (by decide +kernel) rfl)⟩
theorem fk_X1_32 : FK RX1 32 4 2 true (.array .int) := ⟨RX4, TX4, 12, tyX4, rfl, by decide, hin_X4, tyX4_ok, nmX4, rfl, rfl, Or.inr ⟨"PledgeWindow", x_nin 138 (by decide +kernel) rfl⟩⟩
theorem fk_X5_218 : FK RX5 218 4 2 true (.array .int) := ⟨RX4, TX4, 12, tyX4, rfl, by decide, hin_X4, tyX4_ok, nmX4, rfl, rfl, Or.inr ⟨"PledgeWindow", x_nin 139 (by decide +kernel) rfl⟩⟩
theorem fk_X4_21 : FK RX4 21 4 3 true (.array .int) := ⟨RX4, TX4, 12, tyX4, rfl, by decide, hin_X4, tyX4_ok, nmX4, rfl, rfl, Or.inl (x_in 140 (by decide +kernel) rfl)⟩
theorem fk_X1_27 : FK RX1 27 4 3 true (.array .int) := ⟨RX4, TX4, 12, tyX4, rfl, by decide, hin_X4, tyX4_ok, nmX4, rfl, rfl, Or.inr ⟨"PledgeWindow", x_nin 141 (by decide +kernel) rfl⟩⟩
theorem fk_X5_221 : FK RX5 221 4 3 true (.array .int) := ⟨RX4, TX4, 12, tyX4, rfl, by decide, hin_X4, tyX4_ok, nmX4, rfl, rfl, Or.inr ⟨"PledgeWindow", x_nin 142 (by decide +kernel) rfl⟩⟩
theorem fk_X4_24 : FK RX4 24 4 4 true (.array .int) := ⟨RX4, TX4, 12, tyX4, rfl, by decide, hin_X4, tyX4_ok, nmX4, rfl, rfl, Or.inl (x_in 143 (by decide +kernel) rfl)⟩
theorem fk_X5_230 : FK RX5 230 4 4 true (.array .int) := ⟨RX4, TX4, 12, tyX4, rfl, by decide, hin_X4, tyX4_ok, nmX4, rfl, rfl, Or.inr ⟨"PledgeWindow", x_nin 144 (by decide +kernel) rfl⟩⟩
theorem fk_X4_27 : FK RX4 27 4 5 true (.array .int) := ⟨RX4, TX4, 12, tyX4, rfl, by decide, hin_X4, tyX4_ok, nmX4, rfl, rfl, Or.inl (x_in 145 (by decide +kernel) rfl)⟩
theorem fk_X5_233 : FK RX5 233 4 5 true (.array .int) := ⟨RX4, TX4, 12, tyX4, rfl, by decide, hin_X4, tyX4_ok, nmX4, rfl, rfl, Or.inr ⟨"PledgeWindow", x_nin 146 (by decide +kernel) rfl⟩⟩
theorem fk_X4_30 : FK RX4 30 4 6 true (.array .int) := ⟨RX4, TX4, 12, tyX4, rfl, by decide, hin_X4, tyX4_ok, nmX4, rfl, rfl, Or.inl (x_in 147 (by decide +kernel) rfl)⟩
theorem fk_X1_35 : FK RX1 35 4 6 true (.array .int) := ⟨RX4, TX4, 12, tyX4, rfl, by decide, hin_X4, tyX4_ok, nmX4, rfl, rfl, Or.inr ⟨"PledgeWindow", x_nin 148 (by decide +kernel) rfl⟩⟩
theorem fk_X5_193 : FK RX5 193 4 6 true (.array .int) := ⟨RX4, TX4, 12, tyX4, rfl, by decide, hin_X4, tyX4_ok, nmX4, rfl, rfl, Or.inr ⟨"PledgeWindow", x_nin 149 (by decide +kernel) rfl⟩⟩
theorem fk_X4_33 : FK RX4 33 4 7 false .int := ⟨RX4, TX4, 12, tyX4, rfl, by decide, hin_X4, tyX4_ok, nmX4, rfl, rfl, Or.inl (x_in 150 (by decide +kernel) rfl)⟩
theorem fk_X2_82 : FK RX2 82 4 7 false .int := ⟨RX4, TX4, 12, tyX4, rfl, by decide, hin_X4, tyX4_ok, nmX4, rfl, rfl, Or.inr ⟨"PledgeWindow", x_nin 151 (by decide +kernel) rfl⟩⟩
theorem fk_X5_92 : FK RX5 92 4 7 false .int := ⟨RX4, TX4, 12, tyX4, rfl, by decide, hin_X4, tyX4_ok, nmX4, rfl, rfl, Or.inr ⟨"PledgeWindow", x_nin 152 (by decide +kernel) rfl⟩⟩
theorem fk_X4_37 : FK RX4 37 4 8 false .int := ⟨RX4, TX4, 12, tyX4, rfl, by decide, hin_X4, tyX4_ok, nmX4, rfl, rfl, Or.inl (x_in 153 (by decide +kernel) rfl)⟩
theorem fk_X2_85 : FK RX2 85 4 8 false .int := ⟨RX4, TX4, 12, tyX4, rfl, by decide, hin_X4, tyX4_ok, nmX4, rfl, rfl, Or.inr ⟨"PledgeWindow", x_nin 154 (by decide +kernel) rfl⟩⟩
theorem fk_X5_120 : FK RX5 120 4 8 false .int := ⟨RX4, TX4, 12, tyX4, rfl, by decide, hin_X4, tyX4_ok, nmX4, rfl, rfl, Or.inr ⟨"PledgeWindow", x_nin 155 (by decide +kernel) rfl⟩⟩
theorem fk_X4_40 : FK RX4 40 4 9 false .int := ⟨RX4, TX4, 12, tyX4, rfl, by decide, hin_X4, tyX4_ok, nmX4, rfl, rfl, Or.inl (x_in 156 (by decide +kernel) rfl)⟩
theorem fk_X2_88 : FK RX2 88 4 9 false .int := ⟨RX4, TX4, 12, tyX4, rfl, by decide, hin_X4, tyX4_ok, nmX4, rfl, rfl, Or.inr ⟨"PledgeWindow", x_nin 157 (by decide +kernel) rfl⟩⟩
theorem fk_X5_126 : FK RX5 126 4 9 false .int := ⟨RX4, TX4, 12, tyX4, rfl, by decide, hin_X4, tyX4_ok, nmX4, rfl, rfl, Or.inr ⟨"PledgeWindow", x_nin 158 (by decide +kernel) rfl⟩⟩
theorem fk_X4_43 : FK RX4 43 4 10 false .int := ⟨RX4, TX4, 12, tyX4, rfl, by decide, hin_X4, tyX4_ok, nmX4, rfl, rfl, Or.inl (x_in 159 (by decide +kernel) rfl)⟩
theorem fk_X1_45 : FK RX1 45 4 10 false .int := ⟨RX4, TX4, 12, tyX4, rfl, by decide, hin_X4, tyX4_ok, nmX4, rfl, rfl, Or.inr ⟨"PledgeWindow", x_nin 160 (by decide +kernel) rfl⟩⟩
theorem fk_X5_168 : FK RX5 168 4 10 false .int := ⟨RX4, TX4, 12, tyX4, rfl, by decide, hin_X4, tyX4_ok, nmX4, rfl, rfl, Or.inr ⟨"PledgeWindow", x_nin 161 (by decide +kernel) rfl⟩⟩
theorem fk_X4_46 : FK RX4 46 4 11 false .int := ⟨RX4, TX4, 12, tyX4, rfl, by decide, hin_X4, tyX4_ok, nmX4, rfl, rfl, Or.inl (x_in 162 (by decide +kernel) rfl)⟩
theorem fk_X1_38 : FK RX1 38 4 11 false .int := ⟨RX4, TX4, 12, tyX4, rfl, by decide, hin_X4, tyX4_ok, nmX4, rfl, rfl, Or.inr ⟨"PledgeWindow", x_nin 163 (by decide +kernel) rfl⟩⟩
theorem fk_X5_363 : FK RX5 363 4 11 false .int := ⟨RX4, TX4, 12, tyX4, rfl, by decide, hin_X4, tyX4_ok, nmX4, rfl, rfl, Or.inr ⟨"PledgeWindow", x_nin 164 (by decide +kernel) rfl⟩⟩
theorem ml_X3_20 : ML RX3 20 yX1_init := Or.inr ⟨"PledgeWindow", x_nin 193 (by decide +kernel) rfl⟩
theorem fk_X1_11 : FK RX1 11 1 0 true (.array .int) := ⟨RX1, TX1, 2, tyX1, rfl, by decide, hin_X1, tyX1_ok, nmX1, rfl, rfl, Or.inl (x_in 197 (by decide +kernel) rfl)⟩
theorem fk_X1_15 : FK RX1 15 1 1 false .int := ⟨RX1, TX1, 2, tyX1, rfl, by decide, hin_X1, tyX1_ok, nmX1, rfl, rfl, Or.inl (x_in 198 (by decide +kernel) rfl)⟩
theorem fk_X3_47 : FK RX3 47 1 1 false .int := ⟨RX1, TX1, 2, tyX1, rfl, by decide, hin_X1, tyX1_ok, nmX1, rfl, rfl, Or.inr ⟨"PledgeWindow", x_nin 199 (by decide +kernel) rfl⟩⟩
theorem fk_X5_112 : FK RX5 112 1 1 false .int := ⟨RX1, TX1, 2, tyX1, rfl, by decide, hin_X1, tyX1_ok, nmX1, rfl, rfl, Or.inr ⟨"PledgeWindow", x_nin 200 (by decide +kernel) rfl⟩⟩
theorem ml_X3_27 : ML RX3 27 yX0_init := Or.inr ⟨"PledgeWindow", x_nin 208 (by decide +kernel) rfl⟩
theorem ml_X0_13 : ML RX0 13 yJ9_max_7cf53 := Or.inl (x_in 212 (by decide +kernel) rfl)
theorem fk_X0_19 : FK RX0 19 0 0 true .int := ⟨RX0, TX0, 3, tyX0, rfl, by decide, hin_X0, tyX0_ok, nmX0, rfl, rfl, Or.inl (x_in 215 (by decide +kernel) rfl)⟩
theorem fk_X0_22 : FK RX0 22 0 1 true (.array .int) := ⟨RX0, TX0, 3, tyX0, rfl, by decide, hin_X0, tyX0_ok, nmX0, rfl, rfl, Or.inl (x_in 216 (by decide +kernel) rfl)⟩
theorem fk_X0_7 : FK RX0 7 0 2 false .int := ⟨RX0, TX0, 3, tyX0, rfl, by decide, hin_X0, tyX0_ok, nmX0, rfl, rfl, Or.inl (x_in 217 (by decide +kernel) rfl)⟩
theorem fk_X3_51 : FK RX3 51 0 2 false .int := ⟨RX0, TX0, 3, tyX0, rfl, by decide, hin_X0, tyX0_ok, nmX0, rfl, rfl, Or.inr ⟨"PledgeWindow", x_nin 218 (by decide +kernel) rfl⟩⟩
theorem fk_X5_305 : FK RX5 305 0 2 false .int := ⟨RX0, TX0, 3, tyX0, rfl, by decide, hin_X0, tyX0_ok, nmX0, rfl, rfl, Or.inr ⟨"PledgeWindow", x_nin 219 (by decide +kernel) rfl⟩⟩
theorem fk_X3_12 : FK RX3 12 3 0 true (.object "PledgeWindow$Town") := ⟨RX3, TX3, 6, tyX3, rfl, by decide, hin_X3, tyX3_ok, nmX3, rfl, rfl, Or.inl (x_in 227 (by decide +kernel) rfl)⟩
theorem fk_X5_89 : FK RX5 89 3 0 true (.object "PledgeWindow$Town") := ⟨RX3, TX3, 6, tyX3, rfl, by decide, hin_X3, tyX3_ok, nmX3, rfl, rfl, Or.inr ⟨"PledgeWindow", x_nin 228 (by decide +kernel) rfl⟩⟩
theorem fk_X3_21 : FK RX3 21 3 1 true (.object "PledgeWindow$Past") := ⟨RX3, TX3, 6, tyX3, rfl, by decide, hin_X3, tyX3_ok, nmX3, rfl, rfl, Or.inl (x_in 229 (by decide +kernel) rfl)⟩
theorem fk_X5_108 : FK RX5 108 3 1 true (.object "PledgeWindow$Past") := ⟨RX3, TX3, 6, tyX3, rfl, by decide, hin_X3, tyX3_ok, nmX3, rfl, rfl, Or.inr ⟨"PledgeWindow", x_nin 230 (by decide +kernel) rfl⟩⟩
theorem fk_X3_30 : FK RX3 30 3 2 true (.object "PledgeWindow$Hints") := ⟨RX3, TX3, 6, tyX3, rfl, by decide, hin_X3, tyX3_ok, nmX3, rfl, rfl, Or.inl (x_in 231 (by decide +kernel) rfl)⟩
theorem fk_X5_273 : FK RX5 273 3 2 true (.object "PledgeWindow$Hints") := ⟨RX3, TX3, 6, tyX3, rfl, by decide, hin_X3, tyX3_ok, nmX3, rfl, rfl, Or.inr ⟨"PledgeWindow", x_nin 232 (by decide +kernel) rfl⟩⟩
theorem fk_X3_34 : FK RX3 34 3 3 true (.object "PledgeWindow$Hints") := ⟨RX3, TX3, 6, tyX3, rfl, by decide, hin_X3, tyX3_ok, nmX3, rfl, rfl, Or.inl (x_in 233 (by decide +kernel) rfl)⟩
theorem fk_X5_295 : FK RX5 295 3 3 true (.object "PledgeWindow$Hints") := ⟨RX3, TX3, 6, tyX3, rfl, by decide, hin_X3, tyX3_ok, nmX3, rfl, rfl, Or.inr ⟨"PledgeWindow", x_nin 234 (by decide +kernel) rfl⟩⟩
theorem fk_X3_37 : FK RX3 37 3 4 true (.object "PledgeWindow$Hints") := ⟨RX3, TX3, 6, tyX3, rfl, by decide, hin_X3, tyX3_ok, nmX3, rfl, rfl, Or.inl (x_in 235 (by decide +kernel) rfl)⟩
theorem fk_X5_298 : FK RX5 298 3 4 true (.object "PledgeWindow$Hints") := ⟨RX3, TX3, 6, tyX3, rfl, by decide, hin_X3, tyX3_ok, nmX3, rfl, rfl, Or.inr ⟨"PledgeWindow", x_nin 236 (by decide +kernel) rfl⟩⟩
theorem fk_X3_40 : FK RX3 40 3 5 false .boolean := ⟨RX3, TX3, 6, tyX3, rfl, by decide, hin_X3, tyX3_ok, nmX3, rfl, rfl, Or.inl (x_in 237 (by decide +kernel) rfl)⟩
theorem fk_X5_373 : FK RX5 373 3 5 false .boolean := ⟨RX3, TX3, 6, tyX3, rfl, by decide, hin_X3, tyX3_ok, nmX3, rfl, rfl, Or.inr ⟨"PledgeWindow", x_nin 238 (by decide +kernel) rfl⟩⟩
theorem ml_X5_24 : ML RX5 24 yX2_init := Or.inr ⟨"PledgeWindow", x_nin 254 (by decide +kernel) rfl⟩
theorem ml_X2_17 : ML RX2 17 yX4_init := Or.inr ⟨"PledgeWindow", x_nin 259 (by decide +kernel) rfl⟩
theorem fk_X2_9 : FK RX2 9 2 0 true (.array .int) := ⟨RX2, TX2, 9, tyX2, rfl, by decide, hin_X2, tyX2_ok, nmX2, rfl, rfl, Or.inl (x_in 260 (by decide +kernel) rfl)⟩
theorem fk_X5_135 : FK RX5 135 2 0 true (.array .int) := ⟨RX2, TX2, 9, tyX2, rfl, by decide, hin_X2, tyX2_ok, nmX2, rfl, rfl, Or.inr ⟨"PledgeWindow", x_nin 261 (by decide +kernel) rfl⟩⟩
theorem fk_X2_18 : FK RX2 18 2 1 true (.object "PledgeWindow$Town") := ⟨RX2, TX2, 9, tyX2, rfl, by decide, hin_X2, tyX2_ok, nmX2, rfl, rfl, Or.inl (x_in 262 (by decide +kernel) rfl)⟩
theorem fk_X5_155 : FK RX5 155 2 1 true (.object "PledgeWindow$Town") := ⟨RX2, TX2, 9, tyX2, rfl, by decide, hin_X2, tyX2_ok, nmX2, rfl, rfl, Or.inr ⟨"PledgeWindow", x_nin 263 (by decide +kernel) rfl⟩⟩
theorem fk_X2_22 : FK RX2 22 2 2 false .int := ⟨RX2, TX2, 9, tyX2, rfl, by decide, hin_X2, tyX2_ok, nmX2, rfl, rfl, Or.inl (x_in 264 (by decide +kernel) rfl)⟩
theorem fk_X5_132 : FK RX5 132 2 2 false .int := ⟨RX2, TX2, 9, tyX2, rfl, by decide, hin_X2, tyX2_ok, nmX2, rfl, rfl, Or.inr ⟨"PledgeWindow", x_nin 265 (by decide +kernel) rfl⟩⟩
theorem fk_X2_26 : FK RX2 26 2 3 false .int := ⟨RX2, TX2, 9, tyX2, rfl, by decide, hin_X2, tyX2_ok, nmX2, rfl, rfl, Or.inl (x_in 266 (by decide +kernel) rfl)⟩
theorem fk_X5_152 : FK RX5 152 2 3 false .int := ⟨RX2, TX2, 9, tyX2, rfl, by decide, hin_X2, tyX2_ok, nmX2, rfl, rfl, Or.inr ⟨"PledgeWindow", x_nin 267 (by decide +kernel) rfl⟩⟩
theorem fk_X2_29 : FK RX2 29 2 4 false .int := ⟨RX2, TX2, 9, tyX2, rfl, by decide, hin_X2, tyX2_ok, nmX2, rfl, rfl, Or.inl (x_in 268 (by decide +kernel) rfl)⟩
theorem fk_X5_162 : FK RX5 162 2 4 false .int := ⟨RX2, TX2, 9, tyX2, rfl, by decide, hin_X2, tyX2_ok, nmX2, rfl, rfl, Or.inr ⟨"PledgeWindow", x_nin 269 (by decide +kernel) rfl⟩⟩
theorem fk_X2_32 : FK RX2 32 2 5 false .int := ⟨RX2, TX2, 9, tyX2, rfl, by decide, hin_X2, tyX2_ok, nmX2, rfl, rfl, Or.inl (x_in 270 (by decide +kernel) rfl)⟩
theorem fk_X2_35 : FK RX2 35 2 6 false .int := ⟨RX2, TX2, 9, tyX2, rfl, by decide, hin_X2, tyX2_ok, nmX2, rfl, rfl, Or.inl (x_in 271 (by decide +kernel) rfl)⟩
theorem fk_X2_38 : FK RX2 38 2 7 false .int := ⟨RX2, TX2, 9, tyX2, rfl, by decide, hin_X2, tyX2_ok, nmX2, rfl, rfl, Or.inl (x_in 272 (by decide +kernel) rfl)⟩
theorem fk_X2_41 : FK RX2 41 2 8 false .int := ⟨RX2, TX2, 9, tyX2, rfl, by decide, hin_X2, tyX2_ok, nmX2, rfl, rfl, Or.inl (x_in 273 (by decide +kernel) rfl)⟩
theorem ml_X5_31 : ML RX5 31 yX4_init := Or.inr ⟨"PledgeWindow", x_nin 294 (by decide +kernel) rfl⟩
theorem fk_X5_10 : FK RX5 10 5 0 true (.object "PledgeWindow$Shop") := ⟨RX5, TX5, 13, tyX5, rfl, by decide, hin_X5, tyX5_ok, nmX5, rfl, rfl, Or.inl (x_in 295 (by decide +kernel) rfl)⟩
theorem fk_X5_16 : FK RX5 16 5 1 true (.object "PledgeWindow$Shop") := ⟨RX5, TX5, 13, tyX5, rfl, by decide, hin_X5, tyX5_ok, nmX5, rfl, rfl, Or.inl (x_in 296 (by decide +kernel) rfl)⟩
theorem fk_X5_19 : FK RX5 19 5 2 true (.object "PledgeWindow$Shop") := ⟨RX5, TX5, 13, tyX5, rfl, by decide, hin_X5, tyX5_ok, nmX5, rfl, rfl, Or.inl (x_in 297 (by decide +kernel) rfl)⟩
theorem fk_X5_25 : FK RX5 25 5 3 true (.object "PledgeWindow$Reader") := ⟨RX5, TX5, 13, tyX5, rfl, by decide, hin_X5, tyX5_ok, nmX5, rfl, rfl, Or.inl (x_in 298 (by decide +kernel) rfl)⟩
theorem fk_X5_32 : FK RX5 32 5 4 true (.object "PledgeWindow$Town") := ⟨RX5, TX5, 13, tyX5, rfl, by decide, hin_X5, tyX5_ok, nmX5, rfl, rfl, Or.inl (x_in 299 (by decide +kernel) rfl)⟩
theorem fk_X5_36 : FK RX5 36 5 5 true (.array .int) := ⟨RX5, TX5, 13, tyX5, rfl, by decide, hin_X5, tyX5_ok, nmX5, rfl, rfl, Or.inl (x_in 300 (by decide +kernel) rfl)⟩
theorem fk_X5_40 : FK RX5 40 5 6 true (.array .int) := ⟨RX5, TX5, 13, tyX5, rfl, by decide, hin_X5, tyX5_ok, nmX5, rfl, rfl, Or.inl (x_in 301 (by decide +kernel) rfl)⟩
theorem fk_X5_43 : FK RX5 43 5 7 true (.array .int) := ⟨RX5, TX5, 13, tyX5, rfl, by decide, hin_X5, tyX5_ok, nmX5, rfl, rfl, Or.inl (x_in 302 (by decide +kernel) rfl)⟩
theorem fk_X5_46 : FK RX5 46 5 8 false .long := ⟨RX5, TX5, 13, tyX5, rfl, by decide, hin_X5, tyX5_ok, nmX5, rfl, rfl, Or.inl (x_in 303 (by decide +kernel) rfl)⟩
theorem fk_X5_50 : FK RX5 50 5 9 false .long := ⟨RX5, TX5, 13, tyX5, rfl, by decide, hin_X5, tyX5_ok, nmX5, rfl, rfl, Or.inl (x_in 304 (by decide +kernel) rfl)⟩
theorem fk_X5_53 : FK RX5 53 5 10 false .int := ⟨RX5, TX5, 13, tyX5, rfl, by decide, hin_X5, tyX5_ok, nmX5, rfl, rfl, Or.inl (x_in 305 (by decide +kernel) rfl)⟩
theorem fk_X5_57 : FK RX5 57 5 11 false .int := ⟨RX5, TX5, 13, tyX5, rfl, by decide, hin_X5, tyX5_ok, nmX5, rfl, rfl, Or.inl (x_in 306 (by decide +kernel) rfl)⟩
theorem fk_X5_60 : FK RX5 60 5 12 false .int := ⟨RX5, TX5, 13, tyX5, rfl, by decide, hin_X5, tyX5_ok, nmX5, rfl, rfl, Or.inl (x_in 307 (by decide +kernel) rfl)⟩
theorem ml_L_13 : ML RL 13 yX5_town := Or.inl (x_in 335 (by decide +kernel) rfl)
theorem ml_X5_95 : ML RX5 95 yX3_empty := Or.inr ⟨"PledgeWindow", x_nin 339 (by decide +kernel) rfl⟩
theorem ml_X3_44 : ML RX3 44 yX4_empty := Or.inr ⟨"PledgeWindow", x_nin 343 (by decide +kernel) rfl⟩
theorem ml_L_18 : ML RL 18 yX5_promise := Or.inl (x_in 347 (by decide +kernel) rfl)
theorem ml_X5_98 : ML RX5 98 yX5_between := Or.inl (x_in 351 (by decide +kernel) rfl)
theorem ml_X5_102 : ML RX5 102 yX5_bad := Or.inl (x_in 354 (by decide +kernel) rfl)
theorem ml_X5_73 : ML RX5 73 yX5_bad_ := Or.inl (x_in 358 (by decide +kernel) rfl)
theorem ml_X5_105 : ML RX5 105 yX5_full := Or.inl (x_in 362 (by decide +kernel) rfl)
theorem ml_X5_117 : ML RX5 117 yX4_addPromise := Or.inr ⟨"PledgeWindow", x_nin 366 (by decide +kernel) rfl⟩
theorem ml_X4_53 : ML RX4 53 yX5_put := Or.inr ⟨"PledgeWindow", x_nin 370 (by decide +kernel) rfl⟩
theorem ml_L_23 : ML RL 23 yX5_hearer := Or.inl (x_in 373 (by decide +kernel) rfl)
theorem ml_X5_123 : ML RX5 123 yX4_addHearer := Or.inr ⟨"PledgeWindow", x_nin 377 (by decide +kernel) rfl⟩
theorem ml_L_27 : ML RL 27 yX5_buyer := Or.inl (x_in 381 (by decide +kernel) rfl)
theorem ml_X5_129 : ML RX5 129 yX4_addBuyer := Or.inr ⟨"PledgeWindow", x_nin 385 (by decide +kernel) rfl⟩
theorem ml_L_32 : ML RL 32 yX5_type := Or.inl (x_in 389 (by decide +kernel) rfl)
theorem ml_X5_138 : ML RX5 138 yX5_put := Or.inl (x_in 393 (by decide +kernel) rfl)
theorem ml_L_36 : ML RL 36 yX5_clear := Or.inl (x_in 394 (by decide +kernel) rfl)
theorem ml_L_40 : ML RL 40 yX5_read := Or.inl (x_in 398 (by decide +kernel) rfl)
theorem ml_X5_142 : ML RX5 142 yX2_begin := Or.inr ⟨"PledgeWindow", x_nin 402 (by decide +kernel) rfl⟩
theorem ml_X2_44 : ML RX2 44 yX4_empty := Or.inr ⟨"PledgeWindow", x_nin 406 (by decide +kernel) rfl⟩
theorem ml_X5_145 : ML RX5 145 yX2_reachesItem := Or.inr ⟨"PledgeWindow", x_nin 407 (by decide +kernel) rfl⟩
theorem ml_X2_47 : ML RX2 47 yX2_advance := Or.inl (x_in 411 (by decide +kernel) rfl)
theorem ml_X2_127 : ML RX2 127 yX2_endOfRun := Or.inl (x_in 415 (by decide +kernel) rfl)
theorem ml_X2_131 : ML RX2 131 yX5_at := Or.inr ⟨"PledgeWindow", x_nin 419 (by decide +kernel) rfl⟩
theorem ml_X2_91 : ML RX2 91 yX5_between := Or.inr ⟨"PledgeWindow", x_nin 422 (by decide +kernel) rfl⟩
theorem ml_X2_135 : ML RX2 135 yX2_numberAtHand := Or.inl (x_in 423 (by decide +kernel) rfl)
theorem ml_X5_149 : ML RX5 149 yX2_readItem := Or.inr ⟨"PledgeWindow", x_nin 427 (by decide +kernel) rfl⟩
theorem ml_X2_50 : ML RX2 50 yX2_wordAtHand := Or.inl (x_in 431 (by decide +kernel) rfl)
theorem ml_X2_138 : ML RX2 138 yX2_spelling := Or.inl (x_in 435 (by decide +kernel) rfl)
theorem ml_X2_142 : ML RX2 142 yX2_isAtHand := Or.inl (x_in 445 (by decide +kernel) rfl)
theorem ml_X2_160 : ML RX2 160 yJ0_length_8abf5 := Or.inl (x_in 449 (by decide +kernel) rfl)
theorem ml_J0_335 : ML RJ0 335 yJ0_coder_7d493 := Or.inl (x_in 453 (by decide +kernel) rfl)
theorem ml_X2_164 : ML RX2 164 yJ0_charAt_5068e := Or.inl (x_in 459 (by decide +kernel) rfl)
theorem ml_J0_492 : ML RJ0 492 yJ0_isLatin1_aae02 := Or.inl (x_in 463 (by decide +kernel) rfl)
theorem ml_J0_495 : ML RJ0 495 yJ1_charAt_3b067 := Or.inl (x_in 467 (by decide +kernel) rfl)
theorem ml_J1_9 : ML RJ1 9 yJ0_checkIndex_df160 := Or.inl (x_in 470 (by decide +kernel) rfl)
theorem ml_J0_1059 : ML RJ0 1059 yJ3_checkIndex_8e157 := Or.inl (x_in 475 (by decide +kernel) rfl)
theorem ml_J0_498 : ML RJ0 498 yJ2_charAt_3b067 := Or.inl (x_in 478 (by decide +kernel) rfl)
theorem ml_J2_67 : ML RJ2 67 yJ2_checkIndex_2214a := Or.inl (x_in 481 (by decide +kernel) rfl)
theorem ml_J2_48 : ML RJ2 48 yJ2_length_9d52b := Or.inl (x_in 484 (by decide +kernel) rfl)
theorem ml_J2_414 : ML RJ2 414 yJ0_checkIndex_df160 := Or.inl (x_in 487 (by decide +kernel) rfl)
theorem ml_J2_71 : ML RJ2 71 yJ2_getChar_3b067 := Or.inl (x_in 488 (by decide +kernel) rfl)
theorem ml_X2_54 : ML RX2 54 yX2_mayStand := Or.inl (x_in 497 (by decide +kernel) rfl)
theorem ml_X2_58 : ML RX2 58 yX2_fail := Or.inl (x_in 501 (by decide +kernel) rfl)
theorem ml_X2_61 : ML RX2 61 yX2_readPromise := Or.inl (x_in 505 (by decide +kernel) rfl)
theorem ml_X2_95 : ML RX2 95 yX2_readNumber := Or.inl (x_in 509 (by decide +kernel) rfl)
theorem ml_X2_99 : ML RX2 99 yX4_addPromise := Or.inr ⟨"PledgeWindow", x_nin 513 (by decide +kernel) rfl⟩
theorem ml_X2_64 : ML RX2 64 yX2_readHearer := Or.inl (x_in 514 (by decide +kernel) rfl)
theorem ml_X2_102 : ML RX2 102 yX4_addHearer := Or.inr ⟨"PledgeWindow", x_nin 518 (by decide +kernel) rfl⟩
theorem ml_X2_67 : ML RX2 67 yX2_readBuyer := Or.inl (x_in 519 (by decide +kernel) rfl)
theorem ml_X2_105 : ML RX2 105 yX4_addBuyer := Or.inr ⟨"PledgeWindow", x_nin 523 (by decide +kernel) rfl⟩
theorem ml_X2_70 : ML RX2 70 yX2_readBuy := Or.inl (x_in 524 (by decide +kernel) rfl)
theorem ml_X2_109 : ML RX2 109 yX4_canSell := Or.inr ⟨"PledgeWindow", x_nin 528 (by decide +kernel) rfl⟩
theorem ml_X4_83 : ML RX4 83 yX4_hasBuyer := Or.inl (x_in 532 (by decide +kernel) rfl)
theorem ml_X4_57 : ML RX4 57 yX5_between := Or.inr ⟨"PledgeWindow", x_nin 536 (by decide +kernel) rfl⟩
theorem ml_X4_80 : ML RX4 80 yX4_isInWindow := Or.inl (x_in 537 (by decide +kernel) rfl)
theorem ml_X4_61 : ML RX4 61 yX4_hasPromise := Or.inl (x_in 541 (by decide +kernel) rfl)
theorem ml_X4_65 : ML RX4 65 yX5_at := Or.inr ⟨"PledgeWindow", x_nin 545 (by decide +kernel) rfl⟩
theorem ml_X4_86 : ML RX4 86 yX4_priceOf := Or.inl (x_in 546 (by decide +kernel) rfl)
theorem ml_X4_73 : ML RX4 73 yX4_goodBehind := Or.inl (x_in 550 (by decide +kernel) rfl)
theorem ml_X4_69 : ML RX4 69 yX5_goodOf := Or.inr ⟨"PledgeWindow", x_nin 554 (by decide +kernel) rfl⟩
theorem ml_X5_77 : ML RX5 77 yJ9_min_7cf53 := Or.inl (x_in 557 (by decide +kernel) rfl)
theorem ml_X5_83 : ML RX5 83 yJ9_max_7cf53 := Or.inl (x_in 560 (by decide +kernel) rfl)
theorem ml_X2_113 : ML RX2 113 yX4_sell := Or.inr ⟨"PledgeWindow", x_nin 561 (by decide +kernel) rfl⟩
theorem ml_X2_73 : ML RX2 73 yX2_readKeep := Or.inl (x_in 565 (by decide +kernel) rfl)
theorem ml_X2_117 : ML RX2 117 yX4_isHeld := Or.inr ⟨"PledgeWindow", x_nin 569 (by decide +kernel) rfl⟩
theorem ml_X2_120 : ML RX2 120 yX4_give := Or.inr ⟨"PledgeWindow", x_nin 573 (by decide +kernel) rfl⟩
theorem ml_X4_90 : ML RX4 90 yX4_joyTo := Or.inl (x_in 577 (by decide +kernel) rfl)
theorem ml_X4_77 : ML RX4 77 yX5_joyOf := Or.inr ⟨"PledgeWindow", x_nin 581 (by decide +kernel) rfl⟩
theorem ml_X5_86 : ML RX5 86 yJ9_abs_0f7a4 := Or.inl (x_in 584 (by decide +kernel) rfl)
theorem ml_X2_76 : ML RX2 76 yX2_readDays := Or.inl (x_in 587 (by decide +kernel) rfl)
theorem ml_X2_123 : ML RX2 123 yX4_passDays := Or.inr ⟨"PledgeWindow", x_nin 591 (by decide +kernel) rfl⟩
theorem ml_X2_79 : ML RX2 79 yX2_readStop := Or.inl (x_in 595 (by decide +kernel) rfl)
theorem ml_X5_158 : ML RX5 158 yX4_take := Or.inr ⟨"PledgeWindow", x_nin 599 (by decide +kernel) rfl⟩
theorem ml_X4_49 : ML RX4 49 yX5_copyRow := Or.inr ⟨"PledgeWindow", x_nin 603 (by decide +kernel) rfl⟩
theorem ml_X5_69 : ML RX5 69 yX5_copyCells := Or.inl (x_in 606 (by decide +kernel) rfl)
theorem cp_X5_63 : Cond.methodLink RX5 63 arraycopyName ∈ xtbl ∧ Cond.native arraycopyName ∈ xtbl ∧ Cond.static arraycopyName ∈ xtbl ∧ Cond.initialized "java/lang/System" ∈ xtbl := ⟨x_in 609 (by decide +kernel) rfl, x_in 611 (by decide +kernel) rfl, x_in 610 (by decide +kernel) rfl, x_in 111 (by decide +kernel) rfl⟩
theorem ml_L_44 : ML RL 44 yX5_days := Or.inl (x_in 613 (by decide +kernel) rfl)
theorem ml_X5_165 : ML RX5 165 yX1_save := Or.inr ⟨"PledgeWindow", x_nin 617 (by decide +kernel) rfl⟩
theorem ml_X1_23 : ML RX1 23 yX5_copyCells := Or.inr ⟨"PledgeWindow", x_nin 621 (by decide +kernel) rfl⟩
theorem ml_X1_41 : ML RX1 41 yX5_put := Or.inr ⟨"PledgeWindow", x_nin 622 (by decide +kernel) rfl⟩
theorem ml_X5_171 : ML RX5 171 yX4_passDays := Or.inr ⟨"PledgeWindow", x_nin 623 (by decide +kernel) rfl⟩
theorem ml_L_48 : ML RL 48 yX5_buys := Or.inl (x_in 624 (by decide +kernel) rfl)
theorem ml_X5_175 : ML RX5 175 yX4_hasBuyer := Or.inr ⟨"PledgeWindow", x_nin 628 (by decide +kernel) rfl⟩
theorem ml_X5_179 : ML RX5 179 yX4_hasPromise := Or.inr ⟨"PledgeWindow", x_nin 629 (by decide +kernel) rfl⟩
theorem ml_X5_182 : ML RX5 182 yX4_canSell := Or.inr ⟨"PledgeWindow", x_nin 630 (by decide +kernel) rfl⟩
theorem ml_X5_186 : ML RX5 186 yX5_no := Or.inl (x_in 631 (by decide +kernel) rfl)
theorem ml_X5_189 : ML RX5 189 yX4_sell := Or.inr ⟨"PledgeWindow", x_nin 635 (by decide +kernel) rfl⟩
theorem ml_X5_196 : ML RX5 196 yX5_at := Or.inl (x_in 636 (by decide +kernel) rfl)
theorem ml_L_52 : ML RL 52 yX5_keeps := Or.inl (x_in 637 (by decide +kernel) rfl)
theorem ml_X5_200 : ML RX5 200 yX4_hasHearer := Or.inr ⟨"PledgeWindow", x_nin 641 (by decide +kernel) rfl⟩
theorem ml_X5_203 : ML RX5 203 yX4_isHeld := Or.inr ⟨"PledgeWindow", x_nin 645 (by decide +kernel) rfl⟩
theorem ml_X5_206 : ML RX5 206 yX4_give := Or.inr ⟨"PledgeWindow", x_nin 646 (by decide +kernel) rfl⟩
theorem ml_L_56 : ML RL 56 yX5_undo := Or.inl (x_in 647 (by decide +kernel) rfl)
theorem ml_X5_209 : ML RX5 209 yX1_restore := Or.inr ⟨"PledgeWindow", x_nin 651 (by decide +kernel) rfl⟩
theorem ml_X1_48 : ML RX1 48 yX5_at := Or.inr ⟨"PledgeWindow", x_nin 655 (by decide +kernel) rfl⟩
theorem ml_L_60 : ML RL 60 yX5_of := Or.inl (x_in 656 (by decide +kernel) rfl)
theorem ml_X5_224 : ML RX5 224 yX4_goodBehind := Or.inr ⟨"PledgeWindow", x_nin 660 (by decide +kernel) rfl⟩
theorem ml_X5_227 : ML RX5 227 yX4_priceOf := Or.inr ⟨"PledgeWindow", x_nin 661 (by decide +kernel) rfl⟩
theorem ml_L_64 : ML RL 64 yX5_about := Or.inl (x_in 662 (by decide +kernel) rfl)
theorem ml_X5_236 : ML RX5 236 yX4_bitsAt := Or.inr ⟨"PledgeWindow", x_nin 666 (by decide +kernel) rfl⟩
theorem ml_L_68 : ML RL 68 yX5_purse := Or.inl (x_in 670 (by decide +kernel) rfl)
theorem ml_L_72 : ML RL 72 yX5_good := Or.inl (x_in 674 (by decide +kernel) rfl)
theorem ml_L_76 : ML RL 76 yX5_joy := Or.inl (x_in 678 (by decide +kernel) rfl)
theorem ml_X5_239 : ML RX5 239 yX4_joyTo := Or.inr ⟨"PledgeWindow", x_nin 682 (by decide +kernel) rfl⟩
theorem ml_L_80 : ML RL 80 yX5_when := Or.inl (x_in 683 (by decide +kernel) rfl)
theorem ml_L_84 : ML RL 84 yX5_waits := Or.inl (x_in 687 (by decide +kernel) rfl)
theorem ml_X5_242 : ML RX5 242 yX4_waitingBits := Or.inr ⟨"PledgeWindow", x_nin 691 (by decide +kernel) rfl⟩
theorem ml_X4_93 : ML RX4 93 yX4_bitsAt := Or.inl (x_in 695 (by decide +kernel) rfl)
theorem ml_L_88 : ML RL 88 yX5_fit := Or.inl (x_in 696 (by decide +kernel) rfl)
theorem ml_X5_245 : ML RX5 245 yX5_weigh := Or.inl (x_in 700 (by decide +kernel) rfl)
theorem ml_X5_248 : ML RX5 248 yX5_mostJoy := Or.inl (x_in 704 (by decide +kernel) rfl)
theorem ml_X5_270 : ML RX5 270 yX5_has := Or.inl (x_in 707 (by decide +kernel) rfl)
theorem ml_X5_255 : ML RX5 255 yX5_without := Or.inl (x_in 710 (by decide +kernel) rfl)
theorem ml_X5_252 : ML RX5 252 yX5_firstFor := Or.inl (x_in 713 (by decide +kernel) rfl)
theorem ml_L_92 : ML RL 92 yX5_buy := Or.inl (x_in 717 (by decide +kernel) rfl)
theorem ml_X5_258 : ML RX5 258 yX5_bestBuy := Or.inl (x_in 721 (by decide +kernel) rfl)
theorem ml_X5_262 : ML RX5 262 yX5_sumOver := Or.inl (x_in 725 (by decide +kernel) rfl)
theorem ml_L_97 : ML RL 97 yX5_cheap := Or.inl (x_in 728 (by decide +kernel) rfl)
theorem ml_X5_266 : ML RX5 266 yX5_leastPrice := Or.inl (x_in 732 (by decide +kernel) rfl)
theorem ml_L_101 : ML RL 101 yX5_seen := Or.inl (x_in 735 (by decide +kernel) rfl)
theorem ml_X5_277 : ML RX5 277 yX0_isFull := Or.inr ⟨"PledgeWindow", x_nin 739 (by decide +kernel) rfl⟩
theorem ml_X5_282 : ML RX5 282 yX0_add := Or.inr ⟨"PledgeWindow", x_nin 743 (by decide +kernel) rfl⟩
theorem ml_X0_32 : ML RX0 32 yX5_put := Or.inr ⟨"PledgeWindow", x_nin 747 (by decide +kernel) rfl⟩
theorem ml_L_105 : ML RL 105 yX5_which := Or.inl (x_in 748 (by decide +kernel) rfl)
theorem ml_X5_286 : ML RX5 286 yX5_agreeing := Or.inl (x_in 752 (by decide +kernel) rfl)
theorem ml_X5_314 : ML RX5 314 yX5_agrees := Or.inl (x_in 756 (by decide +kernel) rfl)
theorem ml_X5_301 : ML RX5 301 yX3_hintsOf := Or.inr ⟨"PledgeWindow", x_nin 760 (by decide +kernel) rfl⟩
theorem ml_X5_317 : ML RX5 317 yX0_cell := Or.inr ⟨"PledgeWindow", x_nin 764 (by decide +kernel) rfl⟩
theorem ml_X0_36 : ML RX0 36 yX5_at := Or.inr ⟨"PledgeWindow", x_nin 768 (by decide +kernel) rfl⟩
theorem ml_X5_320 : ML RX5 320 yX5_answerOf := Or.inl (x_in 769 (by decide +kernel) rfl)
theorem ml_X5_308 : ML RX5 308 yX5_goodOf := Or.inl (x_in 773 (by decide +kernel) rfl)
theorem ml_X5_311 : ML RX5 311 yX5_joyOf := Or.inl (x_in 774 (by decide +kernel) rfl)
theorem ml_L_109 : ML RL 109 yX5_tell := Or.inl (x_in 775 (by decide +kernel) rfl)
theorem ml_X5_289 : ML RX5 289 yX5_which := Or.inl (x_in 779 (by decide +kernel) rfl)
theorem ml_X5_292 : ML RX5 292 yX5_bestParting := Or.inl (x_in 780 (by decide +kernel) rfl)
theorem ml_X5_323 : ML RX5 323 yX5_largestCrowd := Or.inl (x_in 784 (by decide +kernel) rfl)
theorem ml_L_113 : ML RL 113 yX5_note := Or.inl (x_in 787 (by decide +kernel) rfl)
theorem ml_L_118 : ML RL 118 yX5_mark := Or.inl (x_in 791 (by decide +kernel) rfl)
theorem ml_L_122 : ML RL 122 yX5_forget := Or.inl (x_in 795 (by decide +kernel) rfl)
theorem ml_L_126 : ML RL 126 yX5_is := Or.inl (x_in 799 (by decide +kernel) rfl)
theorem ml_L_130 : ML RL 130 yX5_look := Or.inl (x_in 803 (by decide +kernel) rfl)
theorem ml_L_134 : ML RL 134 yX5_kinds := Or.inl (x_in 807 (by decide +kernel) rfl)
theorem ml_L_138 : ML RL 138 yX5_ask := Or.inl (x_in 811 (by decide +kernel) rfl)
theorem ml_L_142 : ML RL 142 yX5_bids := Or.inl (x_in 815 (by decide +kernel) rfl)
theorem ml_X5_326 : ML RX5 326 yX5_rests := Or.inl (x_in 819 (by decide +kernel) rfl)
theorem ml_X5_329 : ML RX5 329 yX5_firstGets := Or.inl (x_in 822 (by decide +kernel) rfl)
theorem ml_X5_332 : ML RX5 332 yX5_secondGets := Or.inl (x_in 825 (by decide +kernel) rfl)
theorem ml_L_147 : ML RL 147 yX5_redeemed := Or.inl (x_in 828 (by decide +kernel) rfl)
theorem cn_X5_335 : Cond.constantLong RX5 335 (10) ∈ xtbl := x_in 832 (by decide +kernel) rfl
theorem ml_X5_337 : ML RX5 337 yX5_setFraction := Or.inl (x_in 833 (by decide +kernel) rfl)
theorem ml_X5_341 : ML RX5 341 yX5_commonDivisor := Or.inl (x_in 837 (by decide +kernel) rfl)
theorem ml_L_151 : ML RL 151 yX5_years := Or.inl (x_in 840 (by decide +kernel) rfl)
theorem cn_X5_345 : Cond.constant RX5 345 (999999) ∈ xtbl := x_in 844 (by decide +kernel) rfl
theorem cn_X5_346 : Cond.constantLong RX5 346 (1103515245) ∈ xtbl := x_in 845 (by decide +kernel) rfl
theorem cn_X5_348 : Cond.constantLong RX5 348 (12345) ∈ xtbl := x_in 846 (by decide +kernel) rfl
theorem cn_X5_350 : Cond.constantLong RX5 350 (2147483648) ∈ xtbl := x_in 847 (by decide +kernel) rfl
theorem cn_X5_352 : Cond.constantLong RX5 352 (65536) ∈ xtbl := x_in 848 (by decide +kernel) rfl
theorem cn_X5_354 : Cond.constantLong RX5 354 (7) ∈ xtbl := x_in 849 (by decide +kernel) rfl
theorem cn_X5_356 : Cond.constantLong RX5 356 (1048576) ∈ xtbl := x_in 850 (by decide +kernel) rfl
theorem cn_X5_358 : Cond.constantLong RX5 358 (4) ∈ xtbl := x_in 851 (by decide +kernel) rfl
theorem ml_X5_360 : ML RX5 360 yX4_isInWindow := Or.inr ⟨"PledgeWindow", x_nin 852 (by decide +kernel) rfl⟩
theorem ml_L_155 : ML RL 155 yX5_part := Or.inl (x_in 853 (by decide +kernel) rfl)
theorem ml_L_160 : ML RL 160 yX5_image := Or.inl (x_in 857 (by decide +kernel) rfl)
theorem ml_X5_366 : ML RX5 366 yX5_imageOf := Or.inl (x_in 861 (by decide +kernel) rfl)
theorem ml_X5_370 : ML RX5 370 yX3_take := Or.inr ⟨"PledgeWindow", x_nin 865 (by decide +kernel) rfl⟩
theorem ml_X3_54 : ML RX3 54 yX4_take := Or.inr ⟨"PledgeWindow", x_nin 869 (by decide +kernel) rfl⟩
theorem ml_X3_58 : ML RX3 58 yX1_take := Or.inr ⟨"PledgeWindow", x_nin 870 (by decide +kernel) rfl⟩
theorem ml_X1_19 : ML RX1 19 yX5_copyRow := Or.inr ⟨"PledgeWindow", x_nin 874 (by decide +kernel) rfl⟩
theorem ml_X3_61 : ML RX3 61 yX0_take := Or.inr ⟨"PledgeWindow", x_nin 875 (by decide +kernel) rfl⟩
theorem ml_X0_26 : ML RX0 26 yX5_copyRow := Or.inr ⟨"PledgeWindow", x_nin 879 (by decide +kernel) rfl⟩
theorem ml_L_164 : ML RL 164 yX5_from := Or.inl (x_in 880 (by decide +kernel) rfl)
theorem ml_L_168 : ML RL 168 yX5_status := Or.inl (x_in 884 (by decide +kernel) rfl)
theorem ml_L_172 : ML RL 172 yX5_count := Or.inl (x_in 888 (by decide +kernel) rfl)
theorem ml_X5_377 : ML RX5 377 yX5_countOf := Or.inl (x_in 892 (by decide +kernel) rfl)
theorem ml_X5_380 : ML RX5 380 yJ6_bitCount_0f7a4 := Or.inl (x_in 896 (by decide +kernel) rfl)
theorem cn_J6_265 : Cond.constant RJ6 265 (1431655765) ∈ xtbl := x_in 899 (by decide +kernel) rfl
theorem cn_J6_266 : Cond.constant RJ6 266 (858993459) ∈ xtbl := x_in 900 (by decide +kernel) rfl
theorem cn_J6_267 : Cond.constant RJ6 267 (252645135) ∈ xtbl := x_in 901 (by decide +kernel) rfl
theorem ml_X5_385 : ML RX5 385 yX4_keptCount := Or.inr ⟨"PledgeWindow", x_nin 902 (by decide +kernel) rfl⟩
theorem ml_X4_96 : ML RX4 96 yJ6_bitCount_0f7a4 := Or.inl (x_in 906 (by decide +kernel) rfl)
theorem ml_L_176 : ML RL 176 yX5_digest := Or.inl (x_in 907 (by decide +kernel) rfl)
theorem cn_X5_388 : Cond.constantLong RX5 388 (1637) ∈ xtbl := x_in 911 (by decide +kernel) rfl
theorem cn_X5_390 : Cond.constantLong RX5 390 (31) ∈ xtbl := x_in 912 (by decide +kernel) rfl
theorem ml_X5_392 : ML RX5 392 yX4_digestOn := Or.inr ⟨"PledgeWindow", x_nin 913 (by decide +kernel) rfl⟩
theorem cn_X4_101 : Cond.constantLong RX4 101 (31) ∈ xtbl := x_in 917 (by decide +kernel) rfl
theorem ml_X5_396 : ML RX5 396 yX0_digestOn := Or.inr ⟨"PledgeWindow", x_nin 918 (by decide +kernel) rfl⟩
theorem cn_X0_40 : Cond.constantLong RX0 40 (31) ∈ xtbl := x_in 922 (by decide +kernel) rfl
theorem ml_X0_42 : ML RX0 42 yX0_cell := Or.inl (x_in 923 (by decide +kernel) rfl)
theorem ml_L_12 : ML RL 12 yX6_init := Or.inl (x_in 926 (by decide +kernel) rfl)
theorem ml_X6_48 : ML RX6 48 yX6_begin := Or.inl (x_in 930 (by decide +kernel) rfl)
theorem fk_X6_7 : FK RX6 7 6 0 true (.array .int) := ⟨RX6, TX6, 18, tyX6, rfl, by decide, hin_X6, tyX6_ok, nmX6, rfl, rfl, Or.inl (x_in 933 (by decide +kernel) rfl)⟩
theorem fk_X6_13 : FK RX6 13 6 1 true (.array .int) := ⟨RX6, TX6, 18, tyX6, rfl, by decide, hin_X6, tyX6_ok, nmX6, rfl, rfl, Or.inl (x_in 934 (by decide +kernel) rfl)⟩
theorem fk_X6_16 : FK RX6 16 6 2 true (.array .boolean) := ⟨RX6, TX6, 18, tyX6, rfl, by decide, hin_X6, tyX6_ok, nmX6, rfl, rfl, Or.inl (x_in 935 (by decide +kernel) rfl)⟩
theorem fk_X6_20 : FK RX6 20 6 3 true (.array .int) := ⟨RX6, TX6, 18, tyX6, rfl, by decide, hin_X6, tyX6_ok, nmX6, rfl, rfl, Or.inl (x_in 936 (by decide +kernel) rfl)⟩
theorem fk_X6_199 : FK RX6 199 6 4 false .long := ⟨RX6, TX6, 18, tyX6, rfl, by decide, hin_X6, tyX6_ok, nmX6, rfl, rfl, Or.inl (x_in 937 (by decide +kernel) rfl)⟩
theorem fk_X6_23 : FK RX6 23 6 5 false .long := ⟨RX6, TX6, 18, tyX6, rfl, by decide, hin_X6, tyX6_ok, nmX6, rfl, rfl, Or.inl (x_in 938 (by decide +kernel) rfl)⟩
theorem fk_X6_27 : FK RX6 27 6 6 true (.array .int) := ⟨RX6, TX6, 18, tyX6, rfl, by decide, hin_X6, tyX6_ok, nmX6, rfl, rfl, Or.inl (x_in 939 (by decide +kernel) rfl)⟩
theorem fk_X6_30 : FK RX6 30 6 7 true (.array .int) := ⟨RX6, TX6, 18, tyX6, rfl, by decide, hin_X6, tyX6_ok, nmX6, rfl, rfl, Or.inl (x_in 940 (by decide +kernel) rfl)⟩
theorem fk_X6_33 : FK RX6 33 6 8 true (.array .int) := ⟨RX6, TX6, 18, tyX6, rfl, by decide, hin_X6, tyX6_ok, nmX6, rfl, rfl, Or.inl (x_in 941 (by decide +kernel) rfl)⟩
theorem fk_X6_36 : FK RX6 36 6 9 true (.array .int) := ⟨RX6, TX6, 18, tyX6, rfl, by decide, hin_X6, tyX6_ok, nmX6, rfl, rfl, Or.inl (x_in 942 (by decide +kernel) rfl)⟩
theorem fk_X6_39 : FK RX6 39 6 10 true (.array .int) := ⟨RX6, TX6, 18, tyX6, rfl, by decide, hin_X6, tyX6_ok, nmX6, rfl, rfl, Or.inl (x_in 943 (by decide +kernel) rfl)⟩
theorem fk_X6_226 : FK RX6 226 6 11 false .int := ⟨RX6, TX6, 18, tyX6, rfl, by decide, hin_X6, tyX6_ok, nmX6, rfl, rfl, Or.inl (x_in 944 (by decide +kernel) rfl)⟩
theorem fk_X6_238 : FK RX6 238 6 12 false .int := ⟨RX6, TX6, 18, tyX6, rfl, by decide, hin_X6, tyX6_ok, nmX6, rfl, rfl, Or.inl (x_in 945 (by decide +kernel) rfl)⟩
theorem fk_X6_241 : FK RX6 241 6 13 false .int := ⟨RX6, TX6, 18, tyX6, rfl, by decide, hin_X6, tyX6_ok, nmX6, rfl, rfl, Or.inl (x_in 946 (by decide +kernel) rfl)⟩
theorem fk_X6_244 : FK RX6 244 6 14 false .int := ⟨RX6, TX6, 18, tyX6, rfl, by decide, hin_X6, tyX6_ok, nmX6, rfl, rfl, Or.inl (x_in 947 (by decide +kernel) rfl)⟩
theorem fk_X6_247 : FK RX6 247 6 15 false .int := ⟨RX6, TX6, 18, tyX6, rfl, by decide, hin_X6, tyX6_ok, nmX6, rfl, rfl, Or.inl (x_in 948 (by decide +kernel) rfl)⟩
theorem fk_X6_42 : FK RX6 42 6 16 true (.array .int) := ⟨RX6, TX6, 18, tyX6, rfl, by decide, hin_X6, tyX6_ok, nmX6, rfl, rfl, Or.inl (x_in 949 (by decide +kernel) rfl)⟩
theorem fk_X6_45 : FK RX6 45 6 17 true (.array .int) := ⟨RX6, TX6, 18, tyX6, rfl, by decide, hin_X6, tyX6_ok, nmX6, rfl, rfl, Or.inl (x_in 950 (by decide +kernel) rfl)⟩
theorem ml_L_17 : ML RL 17 yX6_town := Or.inl (x_in 989 (by decide +kernel) rfl)
theorem ml_X6_52 : ML RX6 52 yX6_many := Or.inl (x_in 993 (by decide +kernel) rfl)
theorem ml_L_22 : ML RL 22 yX6_promise := Or.inl (x_in 997 (by decide +kernel) rfl)
theorem ml_X6_64 : ML RX6 64 yX6_isKind := Or.inl (x_in 1001 (by decide +kernel) rfl)
theorem cn_X6_60 : Cond.constantLong RX6 60 (5) ∈ xtbl := x_in 1004 (by decide +kernel) rfl
theorem ml_X6_56 : ML RX6 56 yX6_in := Or.inl (x_in 1005 (by decide +kernel) rfl)
theorem ml_X6_68 : ML RX6 68 yX6_isNine := Or.inl (x_in 1008 (by decide +kernel) rfl)
theorem cn_X6_62 : Cond.constantLong RX6 62 (9) ∈ xtbl := x_in 1011 (by decide +kernel) rfl
theorem ml_X6_71 : ML RX6 71 yX6_bad := Or.inl (x_in 1012 (by decide +kernel) rfl)
theorem ml_X6_75 : ML RX6 75 yX6_full := Or.inl (x_in 1016 (by decide +kernel) rfl)
theorem ml_X6_78 : ML RX6 78 yX6_layPromise := Or.inl (x_in 1020 (by decide +kernel) rfl)
theorem ml_L_26 : ML RL 26 yX6_hearer := Or.inl (x_in 1023 (by decide +kernel) rfl)
theorem ml_L_31 : ML RL 31 yX6_buyer := Or.inl (x_in 1027 (by decide +kernel) rfl)
theorem cn_X6_82 : Cond.constantLong RX6 82 (999) ∈ xtbl := x_in 1031 (by decide +kernel) rfl
theorem ml_L_47 : ML RL 47 yX6_days := Or.inl (x_in 1032 (by decide +kernel) rfl)
theorem cn_X6_102 : Cond.constantLong RX6 102 (99) ∈ xtbl := x_in 1036 (by decide +kernel) rfl
theorem ml_X6_104 : ML RX6 104 yX6_save := Or.inl (x_in 1037 (by decide +kernel) rfl)
theorem ml_X6_107 : ML RX6 107 yX6_goDays := Or.inl (x_in 1041 (by decide +kernel) rfl)
theorem ml_X6_99 : ML RX6 99 yX6_goDay := Or.inl (x_in 1044 (by decide +kernel) rfl)
theorem ml_X6_95 : ML RX6 95 yX6_isShown := Or.inl (x_in 1047 (by decide +kernel) rfl)
theorem ml_L_51 : ML RL 51 yX6_buys := Or.inl (x_in 1050 (by decide +kernel) rfl)
theorem ml_X6_118 : ML RX6 118 yX6_isBuyer := Or.inl (x_in 1054 (by decide +kernel) rfl)
theorem ml_X6_121 : ML RX6 121 yX6_isPromise := Or.inl (x_in 1058 (by decide +kernel) rfl)
theorem ml_X6_124 : ML RX6 124 yX6_mayBuy := Or.inl (x_in 1062 (by decide +kernel) rfl)
theorem ml_X6_111 : ML RX6 111 yX6_priceOf := Or.inl (x_in 1065 (by decide +kernel) rfl)
theorem ml_X6_88 : ML RX6 88 yX6_goodOf := Or.inl (x_in 1068 (by decide +kernel) rfl)
theorem ml_X6_84 : ML RX6 84 yX6_goodAs := Or.inl (x_in 1071 (by decide +kernel) rfl)
theorem ml_X6_128 : ML RX6 128 yX6_no := Or.inl (x_in 1074 (by decide +kernel) rfl)
theorem ml_X6_131 : ML RX6 131 yX6_goBuy := Or.inl (x_in 1078 (by decide +kernel) rfl)
theorem ml_L_55 : ML RL 55 yX6_keeps := Or.inl (x_in 1081 (by decide +kernel) rfl)
theorem ml_X6_134 : ML RX6 134 yX6_isHearer := Or.inl (x_in 1085 (by decide +kernel) rfl)
theorem ml_X6_137 : ML RX6 137 yX6_isHeld := Or.inl (x_in 1089 (by decide +kernel) rfl)
theorem ml_X6_140 : ML RX6 140 yX6_goKeep := Or.inl (x_in 1092 (by decide +kernel) rfl)
theorem ml_X6_114 : ML RX6 114 yX6_joyOf := Or.inl (x_in 1095 (by decide +kernel) rfl)
theorem ml_X6_92 : ML RX6 92 yX6_joyAs := Or.inl (x_in 1098 (by decide +kernel) rfl)
theorem ml_L_59 : ML RL 59 yX6_undo := Or.inl (x_in 1101 (by decide +kernel) rfl)
theorem ml_L_63 : ML RL 63 yX6_of := Or.inl (x_in 1105 (by decide +kernel) rfl)
theorem ml_X6_143 : ML RX6 143 yX6_toldOf := Or.inl (x_in 1109 (by decide +kernel) rfl)
theorem ml_L_67 : ML RL 67 yX6_about := Or.inl (x_in 1113 (by decide +kernel) rfl)
theorem cn_X6_147 : Cond.constantLong RX6 147 (2) ∈ xtbl := x_in 1117 (by decide +kernel) rfl
theorem ml_X6_149 : ML RX6 149 yX6_allIn := Or.inl (x_in 1118 (by decide +kernel) rfl)
theorem ml_L_71 : ML RL 71 yX6_purse := Or.inl (x_in 1122 (by decide +kernel) rfl)
theorem ml_L_75 : ML RL 75 yX6_good := Or.inl (x_in 1126 (by decide +kernel) rfl)
theorem cn_X6_152 : Cond.constantLong RX6 152 (60) ∈ xtbl := x_in 1130 (by decide +kernel) rfl
theorem ml_X6_154 : ML RX6 154 yX6_goodBehind := Or.inl (x_in 1131 (by decide +kernel) rfl)
theorem ml_L_79 : ML RL 79 yX6_joy := Or.inl (x_in 1135 (by decide +kernel) rfl)
theorem ml_L_83 : ML RL 83 yX6_when := Or.inl (x_in 1139 (by decide +kernel) rfl)
theorem cn_X6_157 : Cond.constantLong RX6 157 (30) ∈ xtbl := x_in 1143 (by decide +kernel) rfl
theorem ml_L_87 : ML RL 87 yX6_waits := Or.inl (x_in 1144 (by decide +kernel) rfl)
theorem ml_X6_159 : ML RX6 159 yX6_waiting := Or.inl (x_in 1148 (by decide +kernel) rfl)
theorem ml_L_91 : ML RL 91 yX6_fit := Or.inl (x_in 1152 (by decide +kernel) rfl)
theorem ml_X6_166 : ML RX6 166 yX6_codes := Or.inl (x_in 1156 (by decide +kernel) rfl)
theorem ml_X6_169 : ML RX6 169 yX6_means := Or.inl (x_in 1160 (by decide +kernel) rfl)
theorem ml_X6_162 : ML RX6 162 yX6_has := Or.inl (x_in 1164 (by decide +kernel) rfl)
theorem ml_L_96 : ML RL 96 yX6_buy := Or.inl (x_in 1167 (by decide +kernel) rfl)
theorem cn_X6_172 : Cond.constant RX6 172 (1000000) ∈ xtbl := x_in 1171 (by decide +kernel) rfl
theorem ml_L_100 : ML RL 100 yX6_cheap := Or.inl (x_in 1172 (by decide +kernel) rfl)
theorem ml_L_104 : ML RL 104 yX6_seen := Or.inl (x_in 1176 (by decide +kernel) rfl)
theorem ml_L_108 : ML RL 108 yX6_which := Or.inl (x_in 1180 (by decide +kernel) rfl)
theorem ml_X6_173 : ML RX6 173 yX6_seenOnes := Or.inl (x_in 1184 (by decide +kernel) rfl)
theorem ml_L_112 : ML RL 112 yX6_tell := Or.inl (x_in 1188 (by decide +kernel) rfl)
theorem ml_X6_176 : ML RX6 176 yX6_mostAlike := Or.inl (x_in 1192 (by decide +kernel) rfl)
theorem ml_L_117 : ML RL 117 yX6_note := Or.inl (x_in 1196 (by decide +kernel) rfl)
theorem ml_X6_179 : ML RX6 179 yX6_layFour := Or.inl (x_in 1200 (by decide +kernel) rfl)
theorem ml_L_121 : ML RL 121 yX6_mark := Or.inl (x_in 1204 (by decide +kernel) rfl)
theorem cn_X6_183 : Cond.constantLong RX6 183 (20) ∈ xtbl := x_in 1208 (by decide +kernel) rfl
theorem ml_L_125 : ML RL 125 yX6_forget := Or.inl (x_in 1209 (by decide +kernel) rfl)
theorem ml_L_129 : ML RL 129 yX6_is := Or.inl (x_in 1213 (by decide +kernel) rfl)
theorem ml_X6_185 : ML RX6 185 yX6_kindsOfPromise := Or.inl (x_in 1217 (by decide +kernel) rfl)
theorem ml_L_133 : ML RL 133 yX6_look := Or.inl (x_in 1221 (by decide +kernel) rfl)
theorem ml_L_137 : ML RL 137 yX6_kinds := Or.inl (x_in 1225 (by decide +kernel) rfl)
theorem ml_X6_188 : ML RX6 188 yX6_kindsOfHearer := Or.inl (x_in 1229 (by decide +kernel) rfl)
theorem ml_L_141 : ML RL 141 yX6_ask := Or.inl (x_in 1233 (by decide +kernel) rfl)
theorem ml_L_146 : ML RL 146 yX6_bids := Or.inl (x_in 1237 (by decide +kernel) rfl)
theorem ml_X6_195 : ML RX6 195 yX6_rests := Or.inl (x_in 1241 (by decide +kernel) rfl)
theorem ml_X6_191 : ML RX6 191 yX6_getsBy := Or.inl (x_in 1244 (by decide +kernel) rfl)
theorem ml_L_150 : ML RL 150 yX6_redeemed := Or.inl (x_in 1247 (by decide +kernel) rfl)
theorem cn_X6_202 : Cond.constantLong RX6 202 (10) ∈ xtbl := x_in 1251 (by decide +kernel) rfl
theorem ml_X6_204 : ML RX6 204 yX6_fraction := Or.inl (x_in 1252 (by decide +kernel) rfl)
theorem ml_L_154 : ML RL 154 yX6_years := Or.inl (x_in 1256 (by decide +kernel) rfl)
theorem cn_X6_208 : Cond.constantLong RX6 208 (999999) ∈ xtbl := x_in 1260 (by decide +kernel) rfl
theorem cn_X6_210 : Cond.constantLong RX6 210 (1103515245) ∈ xtbl := x_in 1261 (by decide +kernel) rfl
theorem cn_X6_212 : Cond.constantLong RX6 212 (12345) ∈ xtbl := x_in 1262 (by decide +kernel) rfl
theorem cn_X6_214 : Cond.constantLong RX6 214 (2147483648) ∈ xtbl := x_in 1263 (by decide +kernel) rfl
theorem cn_X6_216 : Cond.constantLong RX6 216 (65536) ∈ xtbl := x_in 1264 (by decide +kernel) rfl
theorem cn_X6_218 : Cond.constantLong RX6 218 (7) ∈ xtbl := x_in 1265 (by decide +kernel) rfl
theorem cn_X6_220 : Cond.constantLong RX6 220 (1048576) ∈ xtbl := x_in 1266 (by decide +kernel) rfl
theorem cn_X6_222 : Cond.constantLong RX6 222 (4) ∈ xtbl := x_in 1267 (by decide +kernel) rfl
theorem ml_L_35 : ML RL 35 yX6_type := Or.inl (x_in 1268 (by decide +kernel) rfl)
theorem cn_X6_224 : Cond.constantLong RX6 224 (127) ∈ xtbl := x_in 1272 (by decide +kernel) rfl
theorem ml_L_39 : ML RL 39 yX6_clear := Or.inl (x_in 1273 (by decide +kernel) rfl)
theorem ml_L_43 : ML RL 43 yX6_read := Or.inl (x_in 1277 (by decide +kernel) rfl)
theorem ml_X6_256 : ML RX6 256 yX6_lookAt := Or.inl (x_in 1281 (by decide +kernel) rfl)
theorem ml_X6_250 : ML RX6 250 yX6_isSmall := Or.inl (x_in 1285 (by decide +kernel) rfl)
theorem cn_X6_230 : Cond.constantLong RX6 230 (97) ∈ xtbl := x_in 1288 (by decide +kernel) rfl
theorem cn_X6_232 : Cond.constantLong RX6 232 (122) ∈ xtbl := x_in 1289 (by decide +kernel) rfl
theorem ml_X6_253 : ML RX6 253 yX6_isFigure := Or.inl (x_in 1290 (by decide +kernel) rfl)
theorem cn_X6_234 : Cond.constantLong RX6 234 (48) ∈ xtbl := x_in 1293 (by decide +kernel) rfl
theorem cn_X6_236 : Cond.constantLong RX6 236 (57) ∈ xtbl := x_in 1294 (by decide +kernel) rfl
theorem ml_X6_273 : ML RX6 273 yX6_spells := Or.inl (x_in 1295 (by decide +kernel) rfl)
theorem ml_X6_260 : ML RX6 260 yX6_goBehind := Or.inl (x_in 1299 (by decide +kernel) rfl)
theorem ml_X6_292 : ML RX6 292 yX6_takesItem := Or.inl (x_in 1303 (by decide +kernel) rfl)
theorem ml_X6_266 : ML RX6 266 yX6_spellsPromise := Or.inl (x_in 1307 (by decide +kernel) rfl)
theorem ml_X6_270 : ML RX6 270 yX6_takesPromise := Or.inl (x_in 1311 (by decide +kernel) rfl)
theorem ml_X6_263 : ML RX6 263 yX6_takes := Or.inl (x_in 1315 (by decide +kernel) rfl)
theorem ml_X6_277 : ML RX6 277 yX6_takesHearer := Or.inl (x_in 1319 (by decide +kernel) rfl)
theorem ml_X6_280 : ML RX6 280 yX6_takesBuyer := Or.inl (x_in 1323 (by decide +kernel) rfl)
theorem ml_X6_283 : ML RX6 283 yX6_takesBuy := Or.inl (x_in 1327 (by decide +kernel) rfl)
theorem ml_X6_286 : ML RX6 286 yX6_takesKeep := Or.inl (x_in 1331 (by decide +kernel) rfl)
theorem ml_X6_289 : ML RX6 289 yX6_takesDays := Or.inl (x_in 1335 (by decide +kernel) rfl)
theorem ml_L_159 : ML RL 159 yX6_part := Or.inl (x_in 1339 (by decide +kernel) rfl)
theorem ml_L_163 : ML RL 163 yX6_image := Or.inl (x_in 1343 (by decide +kernel) rfl)
theorem ml_L_167 : ML RL 167 yX6_from := Or.inl (x_in 1347 (by decide +kernel) rfl)
theorem ml_L_171 : ML RL 171 yX6_status := Or.inl (x_in 1351 (by decide +kernel) rfl)
theorem ml_L_175 : ML RL 175 yX6_count := Or.inl (x_in 1355 (by decide +kernel) rfl)
theorem cn_X6_295 : Cond.constantLong RX6 295 (11) ∈ xtbl := x_in 1359 (by decide +kernel) rfl
theorem ml_X6_297 : ML RX6 297 yX6_counted := Or.inl (x_in 1360 (by decide +kernel) rfl)
theorem ml_L_180 : ML RL 180 yX6_digest := Or.inl (x_in 1364 (by decide +kernel) rfl)
theorem cn_X6_302 : Cond.constantLong RX6 302 (1637) ∈ xtbl := x_in 1368 (by decide +kernel) rfl
theorem cn_X6_300 : Cond.constantLong RX6 300 (31) ∈ xtbl := x_in 1369 (by decide +kernel) rfl
theorem ml_X6_304 : ML RX6 304 yX6_sums := Or.inl (x_in 1370 (by decide +kernel) rfl)
theorem mt_X0_init : MK yX0_init cX0_init 2 none 1 ∧ Cond.instanceMethod yX0_init ∈ xtbl := ⟨⟨x_in 103 (by decide +kernel) rfl, x_in 210 (by decide +kernel) rfl, ⟨by decide, by decide, by decide +kernel⟩, by decide⟩, x_in 209 (by decide +kernel) rfl⟩
theorem mt_X0_take : MV yX0_take cX0_take 2 none 1 := ⟨⟨x_in 103 (by decide +kernel) rfl, x_in 878 (by decide +kernel) rfl, ⟨by decide, by decide, by decide +kernel⟩, by decide⟩, x_in 877 (by decide +kernel) rfl, x_in 59 (by decide +kernel) rfl⟩
theorem mt_X0_isFull : MV yX0_isFull cX0_isFull 1 (some .boolean) 0 := ⟨⟨x_in 103 (by decide +kernel) rfl, x_in 742 (by decide +kernel) rfl, ⟨by decide, by decide, by decide +kernel⟩, by decide⟩, x_in 741 (by decide +kernel) rfl, x_in 47 (by decide +kernel) rfl⟩
theorem mt_X0_add : MV yX0_add cX0_add 6 (some .int) 4 := ⟨⟨x_in 103 (by decide +kernel) rfl, x_in 746 (by decide +kernel) rfl, ⟨by decide, by decide, by decide +kernel⟩, by decide⟩, x_in 745 (by decide +kernel) rfl, x_in 48 (by decide +kernel) rfl⟩
theorem mt_X0_cell : MV yX0_cell cX0_cell 3 (some .int) 2 := ⟨⟨x_in 103 (by decide +kernel) rfl, x_in 767 (by decide +kernel) rfl, ⟨by decide, by decide, by decide +kernel⟩, by decide⟩, x_in 766 (by decide +kernel) rfl, x_in 52 (by decide +kernel) rfl⟩
theorem mt_X0_digestOn : MV yX0_digestOn cX0_digestOn 8 (some .long) 2 := ⟨⟨x_in 103 (by decide +kernel) rfl, x_in 921 (by decide +kernel) rfl, ⟨by decide, by decide, by decide +kernel⟩, by decide⟩, x_in 920 (by decide +kernel) rfl, x_in 63 (by decide +kernel) rfl⟩
theorem mt_X1_init : MK yX1_init cX1_init 1 none 0 ∧ Cond.instanceMethod yX1_init ∈ xtbl := ⟨⟨x_in 102 (by decide +kernel) rfl, x_in 195 (by decide +kernel) rfl, ⟨by decide, by decide, by decide +kernel⟩, by decide⟩, x_in 194 (by decide +kernel) rfl⟩
theorem mt_X1_take : MV yX1_take cX1_take 2 none 1 := ⟨⟨x_in 102 (by decide +kernel) rfl, x_in 873 (by decide +kernel) rfl, ⟨by decide, by decide, by decide +kernel⟩, by decide⟩, x_in 872 (by decide +kernel) rfl, x_in 58 (by decide +kernel) rfl⟩
theorem mt_X1_save : MV yX1_save cX1_save 3 none 1 := ⟨⟨x_in 102 (by decide +kernel) rfl, x_in 620 (by decide +kernel) rfl, ⟨by decide, by decide, by decide +kernel⟩, by decide⟩, x_in 619 (by decide +kernel) rfl, x_in 38 (by decide +kernel) rfl⟩
theorem mt_X1_restore : MV yX1_restore cX1_restore 3 none 1 := ⟨⟨x_in 102 (by decide +kernel) rfl, x_in 654 (by decide +kernel) rfl, ⟨by decide, by decide, by decide +kernel⟩, by decide⟩, x_in 653 (by decide +kernel) rfl, x_in 41 (by decide +kernel) rfl⟩
theorem mt_X2_init : MK yX2_init cX2_init 1 none 0 ∧ Cond.instanceMethod yX2_init ∈ xtbl := ⟨⟨x_in 105 (by decide +kernel) rfl, x_in 256 (by decide +kernel) rfl, ⟨by decide, by decide, by decide +kernel⟩, by decide⟩, x_in 255 (by decide +kernel) rfl⟩
theorem mt_X2_begin : MV yX2_begin cX2_begin 1 none 0 := ⟨⟨x_in 105 (by decide +kernel) rfl, x_in 405 (by decide +kernel) rfl, ⟨by decide, by decide, by decide +kernel⟩, by decide⟩, x_in 404 (by decide +kernel) rfl, x_in 8 (by decide +kernel) rfl⟩
theorem mt_X2_reachesItem : MV yX2_reachesItem cX2_reachesItem 1 (some .boolean) 0 := ⟨⟨x_in 105 (by decide +kernel) rfl, x_in 410 (by decide +kernel) rfl, ⟨by decide, by decide, by decide +kernel⟩, by decide⟩, x_in 409 (by decide +kernel) rfl, x_in 9 (by decide +kernel) rfl⟩
theorem mt_X2_readItem : MV yX2_readItem cX2_readItem 2 none 0 := ⟨⟨x_in 105 (by decide +kernel) rfl, x_in 430 (by decide +kernel) rfl, ⟨by decide, by decide, by decide +kernel⟩, by decide⟩, x_in 429 (by decide +kernel) rfl, x_in 13 (by decide +kernel) rfl⟩
theorem mt_X2_mayStand : MV yX2_mayStand cX2_mayStand 2 (some .boolean) 1 := ⟨⟨x_in 105 (by decide +kernel) rfl, x_in 500 (by decide +kernel) rfl, ⟨by decide, by decide, by decide +kernel⟩, by decide⟩, x_in 499 (by decide +kernel) rfl, x_in 16 (by decide +kernel) rfl⟩
theorem mt_X2_readPromise : MV yX2_readPromise cX2_readPromise 3 none 0 := ⟨⟨x_in 105 (by decide +kernel) rfl, x_in 508 (by decide +kernel) rfl, ⟨by decide, by decide, by decide +kernel⟩, by decide⟩, x_in 507 (by decide +kernel) rfl, x_in 18 (by decide +kernel) rfl⟩
theorem mt_X2_readHearer : MV yX2_readHearer cX2_readHearer 3 none 0 := ⟨⟨x_in 105 (by decide +kernel) rfl, x_in 517 (by decide +kernel) rfl, ⟨by decide, by decide, by decide +kernel⟩, by decide⟩, x_in 516 (by decide +kernel) rfl, x_in 20 (by decide +kernel) rfl⟩
theorem mt_X2_readBuyer : MV yX2_readBuyer cX2_readBuyer 2 none 0 := ⟨⟨x_in 105 (by decide +kernel) rfl, x_in 522 (by decide +kernel) rfl, ⟨by decide, by decide, by decide +kernel⟩, by decide⟩, x_in 521 (by decide +kernel) rfl, x_in 21 (by decide +kernel) rfl⟩
theorem mt_X2_readBuy : MV yX2_readBuy cX2_readBuy 3 none 0 := ⟨⟨x_in 105 (by decide +kernel) rfl, x_in 527 (by decide +kernel) rfl, ⟨by decide, by decide, by decide +kernel⟩, by decide⟩, x_in 526 (by decide +kernel) rfl, x_in 22 (by decide +kernel) rfl⟩
theorem mt_X2_readKeep : MV yX2_readKeep cX2_readKeep 3 none 0 := ⟨⟨x_in 105 (by decide +kernel) rfl, x_in 568 (by decide +kernel) rfl, ⟨by decide, by decide, by decide +kernel⟩, by decide⟩, x_in 567 (by decide +kernel) rfl, x_in 30 (by decide +kernel) rfl⟩
theorem mt_X2_readDays : MV yX2_readDays cX2_readDays 2 none 0 := ⟨⟨x_in 105 (by decide +kernel) rfl, x_in 590 (by decide +kernel) rfl, ⟨by decide, by decide, by decide +kernel⟩, by decide⟩, x_in 589 (by decide +kernel) rfl, x_in 34 (by decide +kernel) rfl⟩
theorem mt_X2_readNumber : MV yX2_readNumber cX2_readNumber 3 (some .int) 2 := ⟨⟨x_in 105 (by decide +kernel) rfl, x_in 512 (by decide +kernel) rfl, ⟨by decide, by decide, by decide +kernel⟩, by decide⟩, x_in 511 (by decide +kernel) rfl, x_in 19 (by decide +kernel) rfl⟩
theorem mt_X2_readStop : MV yX2_readStop cX2_readStop 1 none 0 := ⟨⟨x_in 105 (by decide +kernel) rfl, x_in 598 (by decide +kernel) rfl, ⟨by decide, by decide, by decide +kernel⟩, by decide⟩, x_in 597 (by decide +kernel) rfl, x_in 36 (by decide +kernel) rfl⟩
theorem mt_X2_fail : MV yX2_fail cX2_fail 1 none 0 := ⟨⟨x_in 105 (by decide +kernel) rfl, x_in 504 (by decide +kernel) rfl, ⟨by decide, by decide, by decide +kernel⟩, by decide⟩, x_in 503 (by decide +kernel) rfl, x_in 17 (by decide +kernel) rfl⟩
theorem mt_X2_advance : MV yX2_advance cX2_advance 2 none 0 := ⟨⟨x_in 105 (by decide +kernel) rfl, x_in 414 (by decide +kernel) rfl, ⟨by decide, by decide, by decide +kernel⟩, by decide⟩, x_in 413 (by decide +kernel) rfl, x_in 10 (by decide +kernel) rfl⟩
theorem mt_X2_endOfRun : MV yX2_endOfRun cX2_endOfRun 5 (some .int) 3 := ⟨⟨x_in 105 (by decide +kernel) rfl, x_in 418 (by decide +kernel) rfl, ⟨by decide, by decide, by decide +kernel⟩, by decide⟩, x_in 417 (by decide +kernel) rfl, x_in 11 (by decide +kernel) rfl⟩
theorem mt_X2_numberAtHand : MV yX2_numberAtHand cX2_numberAtHand 3 (some .int) 0 := ⟨⟨x_in 105 (by decide +kernel) rfl, x_in 426 (by decide +kernel) rfl, ⟨by decide, by decide, by decide +kernel⟩, by decide⟩, x_in 425 (by decide +kernel) rfl, x_in 12 (by decide +kernel) rfl⟩
theorem mt_X2_wordAtHand : MV yX2_wordAtHand cX2_wordAtHand 2 (some .int) 0 := ⟨⟨x_in 105 (by decide +kernel) rfl, x_in 434 (by decide +kernel) rfl, ⟨by decide, by decide, by decide +kernel⟩, by decide⟩, x_in 433 (by decide +kernel) rfl, x_in 14 (by decide +kernel) rfl⟩
theorem mt_X2_spelling : MS yX2_spelling cX2_spelling 1 (some (.object "java/lang/String")) 1 := ⟨⟨x_in 105 (by decide +kernel) rfl, x_in 437 (by decide +kernel) rfl, ⟨by decide, by decide, by decide +kernel⟩, by decide⟩, x_in 436 (by decide +kernel) rfl⟩
theorem mt_X2_isAtHand : MV yX2_isAtHand cX2_isAtHand 3 (some .boolean) 1 := ⟨⟨x_in 105 (by decide +kernel) rfl, x_in 448 (by decide +kernel) rfl, ⟨by decide, by decide, by decide +kernel⟩, by decide⟩, x_in 447 (by decide +kernel) rfl, x_in 15 (by decide +kernel) rfl⟩
theorem mt_X3_init : MK yX3_init cX3_init 1 none 0 ∧ Cond.instanceMethod yX3_init ∈ xtbl := ⟨⟨x_in 100 (by decide +kernel) rfl, x_in 125 (by decide +kernel) rfl, ⟨by decide, by decide, by decide +kernel⟩, by decide⟩, x_in 124 (by decide +kernel) rfl⟩
theorem mt_X3_empty : MV yX3_empty cX3_empty 1 none 0 := ⟨⟨x_in 100 (by decide +kernel) rfl, x_in 342 (by decide +kernel) rfl, ⟨by decide, by decide, by decide +kernel⟩, by decide⟩, x_in 341 (by decide +kernel) rfl, x_in 0 (by decide +kernel) rfl⟩
theorem mt_X3_take : MV yX3_take cX3_take 2 none 1 := ⟨⟨x_in 100 (by decide +kernel) rfl, x_in 868 (by decide +kernel) rfl, ⟨by decide, by decide, by decide +kernel⟩, by decide⟩, x_in 867 (by decide +kernel) rfl, x_in 57 (by decide +kernel) rfl⟩
theorem mt_X3_hintsOf : MV yX3_hintsOf cX3_hintsOf 2 (some (.object "PledgeWindow$Hints")) 1 := ⟨⟨x_in 100 (by decide +kernel) rfl, x_in 763 (by decide +kernel) rfl, ⟨by decide, by decide, by decide +kernel⟩, by decide⟩, x_in 762 (by decide +kernel) rfl, x_in 51 (by decide +kernel) rfl⟩
theorem mt_X4_init : MK yX4_init cX4_init 1 none 0 ∧ Cond.instanceMethod yX4_init ∈ xtbl := ⟨⟨x_in 101 (by decide +kernel) rfl, x_in 131 (by decide +kernel) rfl, ⟨by decide, by decide, by decide +kernel⟩, by decide⟩, x_in 130 (by decide +kernel) rfl⟩
theorem mt_X4_empty : MV yX4_empty cX4_empty 1 none 0 := ⟨⟨x_in 101 (by decide +kernel) rfl, x_in 346 (by decide +kernel) rfl, ⟨by decide, by decide, by decide +kernel⟩, by decide⟩, x_in 345 (by decide +kernel) rfl, x_in 1 (by decide +kernel) rfl⟩
theorem mt_X4_take : MV yX4_take cX4_take 2 none 1 := ⟨⟨x_in 101 (by decide +kernel) rfl, x_in 602 (by decide +kernel) rfl, ⟨by decide, by decide, by decide +kernel⟩, by decide⟩, x_in 601 (by decide +kernel) rfl, x_in 37 (by decide +kernel) rfl⟩
theorem mt_X4_addPromise : MV yX4_addPromise cX4_addPromise 3 (some .int) 2 := ⟨⟨x_in 101 (by decide +kernel) rfl, x_in 369 (by decide +kernel) rfl, ⟨by decide, by decide, by decide +kernel⟩, by decide⟩, x_in 368 (by decide +kernel) rfl, x_in 5 (by decide +kernel) rfl⟩
theorem mt_X4_addHearer : MV yX4_addHearer cX4_addHearer 3 (some .int) 2 := ⟨⟨x_in 101 (by decide +kernel) rfl, x_in 380 (by decide +kernel) rfl, ⟨by decide, by decide, by decide +kernel⟩, by decide⟩, x_in 379 (by decide +kernel) rfl, x_in 6 (by decide +kernel) rfl⟩
theorem mt_X4_addBuyer : MV yX4_addBuyer cX4_addBuyer 2 (some .int) 1 := ⟨⟨x_in 101 (by decide +kernel) rfl, x_in 388 (by decide +kernel) rfl, ⟨by decide, by decide, by decide +kernel⟩, by decide⟩, x_in 387 (by decide +kernel) rfl, x_in 7 (by decide +kernel) rfl⟩
theorem mt_X4_hasPromise : MV yX4_hasPromise cX4_hasPromise 2 (some .boolean) 1 := ⟨⟨x_in 101 (by decide +kernel) rfl, x_in 544 (by decide +kernel) rfl, ⟨by decide, by decide, by decide +kernel⟩, by decide⟩, x_in 543 (by decide +kernel) rfl, x_in 26 (by decide +kernel) rfl⟩
theorem mt_X4_hasHearer : MV yX4_hasHearer cX4_hasHearer 2 (some .boolean) 1 := ⟨⟨x_in 101 (by decide +kernel) rfl, x_in 644 (by decide +kernel) rfl, ⟨by decide, by decide, by decide +kernel⟩, by decide⟩, x_in 643 (by decide +kernel) rfl, x_in 40 (by decide +kernel) rfl⟩
theorem mt_X4_hasBuyer : MV yX4_hasBuyer cX4_hasBuyer 2 (some .boolean) 1 := ⟨⟨x_in 101 (by decide +kernel) rfl, x_in 535 (by decide +kernel) rfl, ⟨by decide, by decide, by decide +kernel⟩, by decide⟩, x_in 534 (by decide +kernel) rfl, x_in 24 (by decide +kernel) rfl⟩
theorem mt_X4_isInWindow : MV yX4_isInWindow cX4_isInWindow 2 (some .boolean) 1 := ⟨⟨x_in 101 (by decide +kernel) rfl, x_in 540 (by decide +kernel) rfl, ⟨by decide, by decide, by decide +kernel⟩, by decide⟩, x_in 539 (by decide +kernel) rfl, x_in 25 (by decide +kernel) rfl⟩
theorem mt_X4_isHeld : MV yX4_isHeld cX4_isHeld 2 (some .boolean) 1 := ⟨⟨x_in 101 (by decide +kernel) rfl, x_in 572 (by decide +kernel) rfl, ⟨by decide, by decide, by decide +kernel⟩, by decide⟩, x_in 571 (by decide +kernel) rfl, x_in 31 (by decide +kernel) rfl⟩
theorem mt_X4_goodBehind : MV yX4_goodBehind cX4_goodBehind 4 (some .int) 2 := ⟨⟨x_in 101 (by decide +kernel) rfl, x_in 553 (by decide +kernel) rfl, ⟨by decide, by decide, by decide +kernel⟩, by decide⟩, x_in 552 (by decide +kernel) rfl, x_in 28 (by decide +kernel) rfl⟩
theorem mt_X4_priceOf : MV yX4_priceOf cX4_priceOf 2 (some .int) 1 := ⟨⟨x_in 101 (by decide +kernel) rfl, x_in 549 (by decide +kernel) rfl, ⟨by decide, by decide, by decide +kernel⟩, by decide⟩, x_in 548 (by decide +kernel) rfl, x_in 27 (by decide +kernel) rfl⟩
theorem mt_X4_joyTo : MV yX4_joyTo cX4_joyTo 3 (some .int) 2 := ⟨⟨x_in 101 (by decide +kernel) rfl, x_in 580 (by decide +kernel) rfl, ⟨by decide, by decide, by decide +kernel⟩, by decide⟩, x_in 579 (by decide +kernel) rfl, x_in 33 (by decide +kernel) rfl⟩
theorem mt_X4_passDays : MV yX4_passDays cX4_passDays 3 none 1 := ⟨⟨x_in 101 (by decide +kernel) rfl, x_in 594 (by decide +kernel) rfl, ⟨by decide, by decide, by decide +kernel⟩, by decide⟩, x_in 593 (by decide +kernel) rfl, x_in 35 (by decide +kernel) rfl⟩
theorem mt_X4_canSell : MV yX4_canSell cX4_canSell 3 (some .boolean) 2 := ⟨⟨x_in 101 (by decide +kernel) rfl, x_in 531 (by decide +kernel) rfl, ⟨by decide, by decide, by decide +kernel⟩, by decide⟩, x_in 530 (by decide +kernel) rfl, x_in 23 (by decide +kernel) rfl⟩
theorem mt_X4_sell : MV yX4_sell cX4_sell 3 none 2 := ⟨⟨x_in 101 (by decide +kernel) rfl, x_in 564 (by decide +kernel) rfl, ⟨by decide, by decide, by decide +kernel⟩, by decide⟩, x_in 563 (by decide +kernel) rfl, x_in 29 (by decide +kernel) rfl⟩
theorem mt_X4_give : MV yX4_give cX4_give 4 (some .int) 2 := ⟨⟨x_in 101 (by decide +kernel) rfl, x_in 576 (by decide +kernel) rfl, ⟨by decide, by decide, by decide +kernel⟩, by decide⟩, x_in 575 (by decide +kernel) rfl, x_in 32 (by decide +kernel) rfl⟩
theorem mt_X4_bitsAt : MV yX4_bitsAt cX4_bitsAt 4 (some .int) 1 := ⟨⟨x_in 101 (by decide +kernel) rfl, x_in 669 (by decide +kernel) rfl, ⟨by decide, by decide, by decide +kernel⟩, by decide⟩, x_in 668 (by decide +kernel) rfl, x_in 42 (by decide +kernel) rfl⟩
theorem mt_X4_keptCount : MV yX4_keptCount cX4_keptCount 3 (some .int) 0 := ⟨⟨x_in 101 (by decide +kernel) rfl, x_in 905 (by decide +kernel) rfl, ⟨by decide, by decide, by decide +kernel⟩, by decide⟩, x_in 904 (by decide +kernel) rfl, x_in 61 (by decide +kernel) rfl⟩
theorem mt_X4_waitingBits : MV yX4_waitingBits cX4_waitingBits 3 (some .int) 0 := ⟨⟨x_in 101 (by decide +kernel) rfl, x_in 694 (by decide +kernel) rfl, ⟨by decide, by decide, by decide +kernel⟩, by decide⟩, x_in 693 (by decide +kernel) rfl, x_in 43 (by decide +kernel) rfl⟩
theorem mt_X4_digestOn : MV yX4_digestOn cX4_digestOn 6 (some .long) 1 := ⟨⟨x_in 101 (by decide +kernel) rfl, x_in 916 (by decide +kernel) rfl, ⟨by decide, by decide, by decide +kernel⟩, by decide⟩, x_in 915 (by decide +kernel) rfl, x_in 62 (by decide +kernel) rfl⟩
theorem mt_X5_init : MK yX5_init cX5_init 1 none 0 ∧ Cond.instanceMethod yX5_init ∈ xtbl := ⟨⟨x_in 99 (by decide +kernel) rfl, x_in 117 (by decide +kernel) rfl, ⟨by decide, by decide, by decide +kernel⟩, by decide⟩, x_in 116 (by decide +kernel) rfl⟩
theorem mt_X5_at : MS yX5_at cX5_at 2 (some .int) 2 := ⟨⟨x_in 99 (by decide +kernel) rfl, x_in 421 (by decide +kernel) rfl, ⟨by decide, by decide, by decide +kernel⟩, by decide⟩, x_in 420 (by decide +kernel) rfl⟩
theorem mt_X5_put : MS yX5_put cX5_put 3 none 3 := ⟨⟨x_in 99 (by decide +kernel) rfl, x_in 372 (by decide +kernel) rfl, ⟨by decide, by decide, by decide +kernel⟩, by decide⟩, x_in 371 (by decide +kernel) rfl⟩
theorem mt_X5_copyCells : MS yX5_copyCells cX5_copyCells 5 none 5 := ⟨⟨x_in 99 (by decide +kernel) rfl, x_in 608 (by decide +kernel) rfl, ⟨by decide, by decide, by decide +kernel⟩, by decide⟩, x_in 607 (by decide +kernel) rfl⟩
theorem mt_X5_copyRow : MS yX5_copyRow cX5_copyRow 2 none 2 := ⟨⟨x_in 99 (by decide +kernel) rfl, x_in 605 (by decide +kernel) rfl, ⟨by decide, by decide, by decide +kernel⟩, by decide⟩, x_in 604 (by decide +kernel) rfl⟩
theorem mt_X5_between : MS yX5_between cX5_between 3 (some .boolean) 3 := ⟨⟨x_in 99 (by decide +kernel) rfl, x_in 353 (by decide +kernel) rfl, ⟨by decide, by decide, by decide +kernel⟩, by decide⟩, x_in 352 (by decide +kernel) rfl⟩
theorem mt_X5_has : MS yX5_has cX5_has 2 (some .boolean) 2 := ⟨⟨x_in 99 (by decide +kernel) rfl, x_in 709 (by decide +kernel) rfl, ⟨by decide, by decide, by decide +kernel⟩, by decide⟩, x_in 708 (by decide +kernel) rfl⟩
theorem mt_X5_without : MS yX5_without cX5_without 2 (some .int) 2 := ⟨⟨x_in 99 (by decide +kernel) rfl, x_in 712 (by decide +kernel) rfl, ⟨by decide, by decide, by decide +kernel⟩, by decide⟩, x_in 711 (by decide +kernel) rfl⟩
theorem mt_X5_bad : MV yX5_bad cX5_bad 1 (some .int) 0 := ⟨⟨x_in 99 (by decide +kernel) rfl, x_in 357 (by decide +kernel) rfl, ⟨by decide, by decide, by decide +kernel⟩, by decide⟩, x_in 356 (by decide +kernel) rfl, x_in 2 (by decide +kernel) rfl⟩
theorem mt_X5_bad_ : MV yX5_bad_ cX5_bad_ 2 (some .int) 1 := ⟨⟨x_in 99 (by decide +kernel) rfl, x_in 361 (by decide +kernel) rfl, ⟨by decide, by decide, by decide +kernel⟩, by decide⟩, x_in 360 (by decide +kernel) rfl, x_in 3 (by decide +kernel) rfl⟩
theorem mt_X5_no : MV yX5_no cX5_no 1 (some .int) 0 := ⟨⟨x_in 99 (by decide +kernel) rfl, x_in 634 (by decide +kernel) rfl, ⟨by decide, by decide, by decide +kernel⟩, by decide⟩, x_in 633 (by decide +kernel) rfl, x_in 39 (by decide +kernel) rfl⟩
theorem mt_X5_full : MV yX5_full cX5_full 1 (some .int) 0 := ⟨⟨x_in 99 (by decide +kernel) rfl, x_in 365 (by decide +kernel) rfl, ⟨by decide, by decide, by decide +kernel⟩, by decide⟩, x_in 364 (by decide +kernel) rfl, x_in 4 (by decide +kernel) rfl⟩
theorem mt_X5_goodOf : MS yX5_goodOf cX5_goodOf 5 (some .int) 3 := ⟨⟨x_in 99 (by decide +kernel) rfl, x_in 556 (by decide +kernel) rfl, ⟨by decide, by decide, by decide +kernel⟩, by decide⟩, x_in 555 (by decide +kernel) rfl⟩
theorem mt_X5_joyOf : MS yX5_joyOf cX5_joyOf 6 (some .int) 3 := ⟨⟨x_in 99 (by decide +kernel) rfl, x_in 583 (by decide +kernel) rfl, ⟨by decide, by decide, by decide +kernel⟩, by decide⟩, x_in 582 (by decide +kernel) rfl⟩
theorem mt_X5_town : MV yX5_town cX5_town 2 (some .int) 0 := ⟨⟨x_in 99 (by decide +kernel) rfl, x_in 338 (by decide +kernel) rfl, ⟨by decide, by decide, by decide +kernel⟩, by decide⟩, x_in 336 (by decide +kernel) rfl, x_in 337 (by decide +kernel) rfl⟩
theorem mt_X5_promise : MV yX5_promise cX5_promise 3 (some .int) 2 := ⟨⟨x_in 99 (by decide +kernel) rfl, x_in 350 (by decide +kernel) rfl, ⟨by decide, by decide, by decide +kernel⟩, by decide⟩, x_in 348 (by decide +kernel) rfl, x_in 349 (by decide +kernel) rfl⟩
theorem mt_X5_hearer : MV yX5_hearer cX5_hearer 3 (some .int) 2 := ⟨⟨x_in 99 (by decide +kernel) rfl, x_in 376 (by decide +kernel) rfl, ⟨by decide, by decide, by decide +kernel⟩, by decide⟩, x_in 374 (by decide +kernel) rfl, x_in 375 (by decide +kernel) rfl⟩
theorem mt_X5_buyer : MV yX5_buyer cX5_buyer 2 (some .int) 1 := ⟨⟨x_in 99 (by decide +kernel) rfl, x_in 384 (by decide +kernel) rfl, ⟨by decide, by decide, by decide +kernel⟩, by decide⟩, x_in 382 (by decide +kernel) rfl, x_in 383 (by decide +kernel) rfl⟩
theorem mt_X5_type : MV yX5_type cX5_type 2 (some .int) 1 := ⟨⟨x_in 99 (by decide +kernel) rfl, x_in 392 (by decide +kernel) rfl, ⟨by decide, by decide, by decide +kernel⟩, by decide⟩, x_in 390 (by decide +kernel) rfl, x_in 391 (by decide +kernel) rfl⟩
theorem mt_X5_clear : MV yX5_clear cX5_clear 2 (some .int) 0 := ⟨⟨x_in 99 (by decide +kernel) rfl, x_in 397 (by decide +kernel) rfl, ⟨by decide, by decide, by decide +kernel⟩, by decide⟩, x_in 395 (by decide +kernel) rfl, x_in 396 (by decide +kernel) rfl⟩
theorem mt_X5_read : MV yX5_read cX5_read 2 (some .int) 0 := ⟨⟨x_in 99 (by decide +kernel) rfl, x_in 401 (by decide +kernel) rfl, ⟨by decide, by decide, by decide +kernel⟩, by decide⟩, x_in 399 (by decide +kernel) rfl, x_in 400 (by decide +kernel) rfl⟩
theorem mt_X5_days : MV yX5_days cX5_days 2 (some .int) 1 := ⟨⟨x_in 99 (by decide +kernel) rfl, x_in 616 (by decide +kernel) rfl, ⟨by decide, by decide, by decide +kernel⟩, by decide⟩, x_in 614 (by decide +kernel) rfl, x_in 615 (by decide +kernel) rfl⟩
theorem mt_X5_buys : MV yX5_buys cX5_buys 4 (some .int) 2 := ⟨⟨x_in 99 (by decide +kernel) rfl, x_in 627 (by decide +kernel) rfl, ⟨by decide, by decide, by decide +kernel⟩, by decide⟩, x_in 625 (by decide +kernel) rfl, x_in 626 (by decide +kernel) rfl⟩
theorem mt_X5_keeps : MV yX5_keeps cX5_keeps 4 (some .int) 2 := ⟨⟨x_in 99 (by decide +kernel) rfl, x_in 640 (by decide +kernel) rfl, ⟨by decide, by decide, by decide +kernel⟩, by decide⟩, x_in 638 (by decide +kernel) rfl, x_in 639 (by decide +kernel) rfl⟩
theorem mt_X5_undo : MV yX5_undo cX5_undo 1 (some .int) 0 := ⟨⟨x_in 99 (by decide +kernel) rfl, x_in 650 (by decide +kernel) rfl, ⟨by decide, by decide, by decide +kernel⟩, by decide⟩, x_in 648 (by decide +kernel) rfl, x_in 649 (by decide +kernel) rfl⟩
theorem mt_X5_of : MV yX5_of cX5_of 4 (some .int) 2 := ⟨⟨x_in 99 (by decide +kernel) rfl, x_in 659 (by decide +kernel) rfl, ⟨by decide, by decide, by decide +kernel⟩, by decide⟩, x_in 657 (by decide +kernel) rfl, x_in 658 (by decide +kernel) rfl⟩
theorem mt_X5_about : MV yX5_about cX5_about 4 (some .int) 2 := ⟨⟨x_in 99 (by decide +kernel) rfl, x_in 665 (by decide +kernel) rfl, ⟨by decide, by decide, by decide +kernel⟩, by decide⟩, x_in 663 (by decide +kernel) rfl, x_in 664 (by decide +kernel) rfl⟩
theorem mt_X5_purse : MV yX5_purse cX5_purse 4 (some .int) 2 := ⟨⟨x_in 99 (by decide +kernel) rfl, x_in 673 (by decide +kernel) rfl, ⟨by decide, by decide, by decide +kernel⟩, by decide⟩, x_in 671 (by decide +kernel) rfl, x_in 672 (by decide +kernel) rfl⟩
theorem mt_X5_good : MV yX5_good cX5_good 3 (some .int) 2 := ⟨⟨x_in 99 (by decide +kernel) rfl, x_in 677 (by decide +kernel) rfl, ⟨by decide, by decide, by decide +kernel⟩, by decide⟩, x_in 675 (by decide +kernel) rfl, x_in 676 (by decide +kernel) rfl⟩
theorem mt_X5_joy : MV yX5_joy cX5_joy 3 (some .int) 2 := ⟨⟨x_in 99 (by decide +kernel) rfl, x_in 681 (by decide +kernel) rfl, ⟨by decide, by decide, by decide +kernel⟩, by decide⟩, x_in 679 (by decide +kernel) rfl, x_in 680 (by decide +kernel) rfl⟩
theorem mt_X5_when : MV yX5_when cX5_when 4 (some .int) 2 := ⟨⟨x_in 99 (by decide +kernel) rfl, x_in 686 (by decide +kernel) rfl, ⟨by decide, by decide, by decide +kernel⟩, by decide⟩, x_in 684 (by decide +kernel) rfl, x_in 685 (by decide +kernel) rfl⟩
theorem mt_X5_waits : MV yX5_waits cX5_waits 1 (some .int) 0 := ⟨⟨x_in 99 (by decide +kernel) rfl, x_in 690 (by decide +kernel) rfl, ⟨by decide, by decide, by decide +kernel⟩, by decide⟩, x_in 688 (by decide +kernel) rfl, x_in 689 (by decide +kernel) rfl⟩
theorem mt_X5_fit : MV yX5_fit cX5_fit 6 (some .int) 1 := ⟨⟨x_in 99 (by decide +kernel) rfl, x_in 699 (by decide +kernel) rfl, ⟨by decide, by decide, by decide +kernel⟩, by decide⟩, x_in 697 (by decide +kernel) rfl, x_in 698 (by decide +kernel) rfl⟩
theorem mt_X5_buy : MV yX5_buy cX5_buy 6 (some .int) 3 := ⟨⟨x_in 99 (by decide +kernel) rfl, x_in 720 (by decide +kernel) rfl, ⟨by decide, by decide, by decide +kernel⟩, by decide⟩, x_in 718 (by decide +kernel) rfl, x_in 719 (by decide +kernel) rfl⟩
theorem mt_X5_cheap : MV yX5_cheap cX5_cheap 1 (some .int) 0 := ⟨⟨x_in 99 (by decide +kernel) rfl, x_in 731 (by decide +kernel) rfl, ⟨by decide, by decide, by decide +kernel⟩, by decide⟩, x_in 729 (by decide +kernel) rfl, x_in 730 (by decide +kernel) rfl⟩
theorem mt_X5_weigh : MV yX5_weigh cX5_weigh 4 none 0 := ⟨⟨x_in 99 (by decide +kernel) rfl, x_in 703 (by decide +kernel) rfl, ⟨by decide, by decide, by decide +kernel⟩, by decide⟩, x_in 702 (by decide +kernel) rfl, x_in 44 (by decide +kernel) rfl⟩
theorem mt_X5_mostJoy : MS yX5_mostJoy cX5_mostJoy 7 (some .int) 4 := ⟨⟨x_in 99 (by decide +kernel) rfl, x_in 706 (by decide +kernel) rfl, ⟨by decide, by decide, by decide +kernel⟩, by decide⟩, x_in 705 (by decide +kernel) rfl⟩
theorem mt_X5_firstFor : MV yX5_firstFor cX5_firstFor 7 (some .int) 2 := ⟨⟨x_in 99 (by decide +kernel) rfl, x_in 716 (by decide +kernel) rfl, ⟨by decide, by decide, by decide +kernel⟩, by decide⟩, x_in 715 (by decide +kernel) rfl, x_in 45 (by decide +kernel) rfl⟩
theorem mt_X5_sumOver : MS yX5_sumOver cX5_sumOver 5 (some .int) 3 := ⟨⟨x_in 99 (by decide +kernel) rfl, x_in 727 (by decide +kernel) rfl, ⟨by decide, by decide, by decide +kernel⟩, by decide⟩, x_in 726 (by decide +kernel) rfl⟩
theorem mt_X5_bestBuy : MV yX5_bestBuy cX5_bestBuy 8 (some .int) 3 := ⟨⟨x_in 99 (by decide +kernel) rfl, x_in 724 (by decide +kernel) rfl, ⟨by decide, by decide, by decide +kernel⟩, by decide⟩, x_in 723 (by decide +kernel) rfl, x_in 46 (by decide +kernel) rfl⟩
theorem mt_X5_leastPrice : MS yX5_leastPrice cX5_leastPrice 9 (some .int) 5 := ⟨⟨x_in 99 (by decide +kernel) rfl, x_in 734 (by decide +kernel) rfl, ⟨by decide, by decide, by decide +kernel⟩, by decide⟩, x_in 733 (by decide +kernel) rfl⟩
theorem mt_X5_seen : MV yX5_seen cX5_seen 3 (some .int) 2 := ⟨⟨x_in 99 (by decide +kernel) rfl, x_in 738 (by decide +kernel) rfl, ⟨by decide, by decide, by decide +kernel⟩, by decide⟩, x_in 736 (by decide +kernel) rfl, x_in 737 (by decide +kernel) rfl⟩
theorem mt_X5_which : MV yX5_which cX5_which 1 (some .int) 0 := ⟨⟨x_in 99 (by decide +kernel) rfl, x_in 751 (by decide +kernel) rfl, ⟨by decide, by decide, by decide +kernel⟩, by decide⟩, x_in 749 (by decide +kernel) rfl, x_in 750 (by decide +kernel) rfl⟩
theorem mt_X5_tell : MV yX5_tell cX5_tell 1 (some .int) 0 := ⟨⟨x_in 99 (by decide +kernel) rfl, x_in 778 (by decide +kernel) rfl, ⟨by decide, by decide, by decide +kernel⟩, by decide⟩, x_in 776 (by decide +kernel) rfl, x_in 777 (by decide +kernel) rfl⟩
theorem mt_X5_note : MV yX5_note cX5_note 5 (some .int) 4 := ⟨⟨x_in 99 (by decide +kernel) rfl, x_in 790 (by decide +kernel) rfl, ⟨by decide, by decide, by decide +kernel⟩, by decide⟩, x_in 788 (by decide +kernel) rfl, x_in 789 (by decide +kernel) rfl⟩
theorem mt_X5_mark : MV yX5_mark cX5_mark 5 (some .int) 4 := ⟨⟨x_in 99 (by decide +kernel) rfl, x_in 794 (by decide +kernel) rfl, ⟨by decide, by decide, by decide +kernel⟩, by decide⟩, x_in 792 (by decide +kernel) rfl, x_in 793 (by decide +kernel) rfl⟩
theorem mt_X5_forget : MV yX5_forget cX5_forget 4 (some .int) 1 := ⟨⟨x_in 99 (by decide +kernel) rfl, x_in 798 (by decide +kernel) rfl, ⟨by decide, by decide, by decide +kernel⟩, by decide⟩, x_in 796 (by decide +kernel) rfl, x_in 797 (by decide +kernel) rfl⟩
theorem mt_X5_is : MV yX5_is cX5_is 2 (some .int) 1 := ⟨⟨x_in 99 (by decide +kernel) rfl, x_in 802 (by decide +kernel) rfl, ⟨by decide, by decide, by decide +kernel⟩, by decide⟩, x_in 800 (by decide +kernel) rfl, x_in 801 (by decide +kernel) rfl⟩
theorem mt_X5_look : MV yX5_look cX5_look 2 (some .int) 1 := ⟨⟨x_in 99 (by decide +kernel) rfl, x_in 806 (by decide +kernel) rfl, ⟨by decide, by decide, by decide +kernel⟩, by decide⟩, x_in 804 (by decide +kernel) rfl, x_in 805 (by decide +kernel) rfl⟩
theorem mt_X5_kinds : MV yX5_kinds cX5_kinds 2 (some .int) 1 := ⟨⟨x_in 99 (by decide +kernel) rfl, x_in 810 (by decide +kernel) rfl, ⟨by decide, by decide, by decide +kernel⟩, by decide⟩, x_in 808 (by decide +kernel) rfl, x_in 809 (by decide +kernel) rfl⟩
theorem mt_X5_ask : MV yX5_ask cX5_ask 2 (some .int) 1 := ⟨⟨x_in 99 (by decide +kernel) rfl, x_in 814 (by decide +kernel) rfl, ⟨by decide, by decide, by decide +kernel⟩, by decide⟩, x_in 812 (by decide +kernel) rfl, x_in 813 (by decide +kernel) rfl⟩
theorem mt_X5_answerOf : MV yX5_answerOf cX5_answerOf 5 (some .int) 4 := ⟨⟨x_in 99 (by decide +kernel) rfl, x_in 772 (by decide +kernel) rfl, ⟨by decide, by decide, by decide +kernel⟩, by decide⟩, x_in 771 (by decide +kernel) rfl, x_in 53 (by decide +kernel) rfl⟩
theorem mt_X5_agreeing : MV yX5_agreeing cX5_agreeing 6 (some .int) 3 := ⟨⟨x_in 99 (by decide +kernel) rfl, x_in 755 (by decide +kernel) rfl, ⟨by decide, by decide, by decide +kernel⟩, by decide⟩, x_in 754 (by decide +kernel) rfl, x_in 49 (by decide +kernel) rfl⟩
theorem mt_X5_agrees : MV yX5_agrees cX5_agrees 7 (some .boolean) 3 := ⟨⟨x_in 99 (by decide +kernel) rfl, x_in 759 (by decide +kernel) rfl, ⟨by decide, by decide, by decide +kernel⟩, by decide⟩, x_in 758 (by decide +kernel) rfl, x_in 50 (by decide +kernel) rfl⟩
theorem mt_X5_bestParting : MV yX5_bestParting cX5_bestParting 9 (some .int) 4 := ⟨⟨x_in 99 (by decide +kernel) rfl, x_in 783 (by decide +kernel) rfl, ⟨by decide, by decide, by decide +kernel⟩, by decide⟩, x_in 782 (by decide +kernel) rfl, x_in 54 (by decide +kernel) rfl⟩
theorem mt_X5_largestCrowd : MS yX5_largestCrowd cX5_largestCrowd 6 (some .int) 2 := ⟨⟨x_in 99 (by decide +kernel) rfl, x_in 786 (by decide +kernel) rfl, ⟨by decide, by decide, by decide +kernel⟩, by decide⟩, x_in 785 (by decide +kernel) rfl⟩
theorem mt_X5_bids : MV yX5_bids cX5_bids 11 (some .int) 5 := ⟨⟨x_in 99 (by decide +kernel) rfl, x_in 818 (by decide +kernel) rfl, ⟨by decide, by decide, by decide +kernel⟩, by decide⟩, x_in 816 (by decide +kernel) rfl, x_in 817 (by decide +kernel) rfl⟩
theorem mt_X5_firstGets : MS yX5_firstGets cX5_firstGets 3 (some .int) 3 := ⟨⟨x_in 99 (by decide +kernel) rfl, x_in 824 (by decide +kernel) rfl, ⟨by decide, by decide, by decide +kernel⟩, by decide⟩, x_in 823 (by decide +kernel) rfl⟩
theorem mt_X5_secondGets : MS yX5_secondGets cX5_secondGets 3 (some .int) 3 := ⟨⟨x_in 99 (by decide +kernel) rfl, x_in 827 (by decide +kernel) rfl, ⟨by decide, by decide, by decide +kernel⟩, by decide⟩, x_in 826 (by decide +kernel) rfl⟩
theorem mt_X5_rests : MS yX5_rests cX5_rests 6 (some .boolean) 3 := ⟨⟨x_in 99 (by decide +kernel) rfl, x_in 821 (by decide +kernel) rfl, ⟨by decide, by decide, by decide +kernel⟩, by decide⟩, x_in 820 (by decide +kernel) rfl⟩
theorem mt_X5_redeemed : MV yX5_redeemed cX5_redeemed 3 (some .int) 1 := ⟨⟨x_in 99 (by decide +kernel) rfl, x_in 831 (by decide +kernel) rfl, ⟨by decide, by decide, by decide +kernel⟩, by decide⟩, x_in 829 (by decide +kernel) rfl, x_in 830 (by decide +kernel) rfl⟩
theorem mt_X5_setFraction : MV yX5_setFraction cX5_setFraction 7 none 2 := ⟨⟨x_in 99 (by decide +kernel) rfl, x_in 836 (by decide +kernel) rfl, ⟨by decide, by decide, by decide +kernel⟩, by decide⟩, x_in 835 (by decide +kernel) rfl, x_in 55 (by decide +kernel) rfl⟩
theorem mt_X5_commonDivisor : MS yX5_commonDivisor cX5_commonDivisor 11 (some .long) 2 := ⟨⟨x_in 99 (by decide +kernel) rfl, x_in 839 (by decide +kernel) rfl, ⟨by decide, by decide, by decide +kernel⟩, by decide⟩, x_in 838 (by decide +kernel) rfl⟩
theorem mt_X5_years : MV yX5_years cX5_years 8 (some .int) 2 := ⟨⟨x_in 99 (by decide +kernel) rfl, x_in 843 (by decide +kernel) rfl, ⟨by decide, by decide, by decide +kernel⟩, by decide⟩, x_in 841 (by decide +kernel) rfl, x_in 842 (by decide +kernel) rfl⟩
theorem mt_X5_part : MV yX5_part cX5_part 2 (some .long) 1 := ⟨⟨x_in 99 (by decide +kernel) rfl, x_in 856 (by decide +kernel) rfl, ⟨by decide, by decide, by decide +kernel⟩, by decide⟩, x_in 854 (by decide +kernel) rfl, x_in 855 (by decide +kernel) rfl⟩
theorem mt_X5_image : MV yX5_image cX5_image 3 (some .int) 1 := ⟨⟨x_in 99 (by decide +kernel) rfl, x_in 860 (by decide +kernel) rfl, ⟨by decide, by decide, by decide +kernel⟩, by decide⟩, x_in 858 (by decide +kernel) rfl, x_in 859 (by decide +kernel) rfl⟩
theorem mt_X5_from : MV yX5_from cX5_from 3 (some .int) 1 := ⟨⟨x_in 99 (by decide +kernel) rfl, x_in 883 (by decide +kernel) rfl, ⟨by decide, by decide, by decide +kernel⟩, by decide⟩, x_in 881 (by decide +kernel) rfl, x_in 882 (by decide +kernel) rfl⟩
theorem mt_X5_imageOf : MV yX5_imageOf cX5_imageOf 2 (some (.object "PledgeWindow$Shop")) 1 := ⟨⟨x_in 99 (by decide +kernel) rfl, x_in 864 (by decide +kernel) rfl, ⟨by decide, by decide, by decide +kernel⟩, by decide⟩, x_in 863 (by decide +kernel) rfl, x_in 56 (by decide +kernel) rfl⟩
theorem mt_X5_status : MV yX5_status cX5_status 2 (some .int) 1 := ⟨⟨x_in 99 (by decide +kernel) rfl, x_in 887 (by decide +kernel) rfl, ⟨by decide, by decide, by decide +kernel⟩, by decide⟩, x_in 885 (by decide +kernel) rfl, x_in 886 (by decide +kernel) rfl⟩
theorem mt_X5_count : MV yX5_count cX5_count 2 (some .int) 1 := ⟨⟨x_in 99 (by decide +kernel) rfl, x_in 891 (by decide +kernel) rfl, ⟨by decide, by decide, by decide +kernel⟩, by decide⟩, x_in 889 (by decide +kernel) rfl, x_in 890 (by decide +kernel) rfl⟩
theorem mt_X5_countOf : MV yX5_countOf cX5_countOf 2 (some .int) 1 := ⟨⟨x_in 99 (by decide +kernel) rfl, x_in 895 (by decide +kernel) rfl, ⟨by decide, by decide, by decide +kernel⟩, by decide⟩, x_in 894 (by decide +kernel) rfl, x_in 60 (by decide +kernel) rfl⟩
theorem mt_X5_digest : MV yX5_digest cX5_digest 4 (some .long) 0 := ⟨⟨x_in 99 (by decide +kernel) rfl, x_in 910 (by decide +kernel) rfl, ⟨by decide, by decide, by decide +kernel⟩, by decide⟩, x_in 908 (by decide +kernel) rfl, x_in 909 (by decide +kernel) rfl⟩
theorem mt_X6_init : MK yX6_init cX6_init 1 none 0 ∧ Cond.instanceMethod yX6_init ∈ xtbl := ⟨⟨x_in 106 (by decide +kernel) rfl, x_in 928 (by decide +kernel) rfl, ⟨by decide, by decide, by decide +kernel⟩, by decide⟩, x_in 927 (by decide +kernel) rfl⟩
theorem mt_X6_in : MS yX6_in cX6_in 6 (some .boolean) 3 := ⟨⟨x_in 106 (by decide +kernel) rfl, x_in 1007 (by decide +kernel) rfl, ⟨by decide, by decide, by decide +kernel⟩, by decide⟩, x_in 1006 (by decide +kernel) rfl⟩
theorem mt_X6_bad : MV yX6_bad cX6_bad 2 (some .int) 1 := ⟨⟨x_in 106 (by decide +kernel) rfl, x_in 1015 (by decide +kernel) rfl, ⟨by decide, by decide, by decide +kernel⟩, by decide⟩, x_in 1014 (by decide +kernel) rfl, x_in 65 (by decide +kernel) rfl⟩
theorem mt_X6_no : MV yX6_no cX6_no 1 (some .int) 0 := ⟨⟨x_in 106 (by decide +kernel) rfl, x_in 1077 (by decide +kernel) rfl, ⟨by decide, by decide, by decide +kernel⟩, by decide⟩, x_in 1076 (by decide +kernel) rfl, x_in 70 (by decide +kernel) rfl⟩
theorem mt_X6_full : MV yX6_full cX6_full 1 (some .int) 0 := ⟨⟨x_in 106 (by decide +kernel) rfl, x_in 1019 (by decide +kernel) rfl, ⟨by decide, by decide, by decide +kernel⟩, by decide⟩, x_in 1018 (by decide +kernel) rfl, x_in 66 (by decide +kernel) rfl⟩
theorem mt_X6_has : MS yX6_has cX6_has 2 (some .boolean) 2 := ⟨⟨x_in 106 (by decide +kernel) rfl, x_in 1166 (by decide +kernel) rfl, ⟨by decide, by decide, by decide +kernel⟩, by decide⟩, x_in 1165 (by decide +kernel) rfl⟩
theorem mt_X6_begin : MS yX6_begin cX6_begin 2 none 1 := ⟨⟨x_in 106 (by decide +kernel) rfl, x_in 932 (by decide +kernel) rfl, ⟨by decide, by decide, by decide +kernel⟩, by decide⟩, x_in 931 (by decide +kernel) rfl⟩
theorem mt_X6_many : MV yX6_many cX6_many 1 (some .int) 0 := ⟨⟨x_in 106 (by decide +kernel) rfl, x_in 996 (by decide +kernel) rfl, ⟨by decide, by decide, by decide +kernel⟩, by decide⟩, x_in 995 (by decide +kernel) rfl, x_in 64 (by decide +kernel) rfl⟩
theorem mt_X6_isPromise : MV yX6_isPromise cX6_isPromise 2 (some .boolean) 1 := ⟨⟨x_in 106 (by decide +kernel) rfl, x_in 1061 (by decide +kernel) rfl, ⟨by decide, by decide, by decide +kernel⟩, by decide⟩, x_in 1060 (by decide +kernel) rfl, x_in 69 (by decide +kernel) rfl⟩
theorem mt_X6_isHearer : MV yX6_isHearer cX6_isHearer 2 (some .boolean) 1 := ⟨⟨x_in 106 (by decide +kernel) rfl, x_in 1088 (by decide +kernel) rfl, ⟨by decide, by decide, by decide +kernel⟩, by decide⟩, x_in 1087 (by decide +kernel) rfl, x_in 71 (by decide +kernel) rfl⟩
theorem mt_X6_isBuyer : MV yX6_isBuyer cX6_isBuyer 2 (some .boolean) 1 := ⟨⟨x_in 106 (by decide +kernel) rfl, x_in 1057 (by decide +kernel) rfl, ⟨by decide, by decide, by decide +kernel⟩, by decide⟩, x_in 1056 (by decide +kernel) rfl, x_in 68 (by decide +kernel) rfl⟩
theorem mt_X6_isKind : MS yX6_isKind cX6_isKind 1 (some .boolean) 1 := ⟨⟨x_in 106 (by decide +kernel) rfl, x_in 1003 (by decide +kernel) rfl, ⟨by decide, by decide, by decide +kernel⟩, by decide⟩, x_in 1002 (by decide +kernel) rfl⟩
theorem mt_X6_isNine : MS yX6_isNine cX6_isNine 1 (some .boolean) 1 := ⟨⟨x_in 106 (by decide +kernel) rfl, x_in 1010 (by decide +kernel) rfl, ⟨by decide, by decide, by decide +kernel⟩, by decide⟩, x_in 1009 (by decide +kernel) rfl⟩
theorem mt_X6_town : MV yX6_town cX6_town 2 (some .int) 0 := ⟨⟨x_in 106 (by decide +kernel) rfl, x_in 992 (by decide +kernel) rfl, ⟨by decide, by decide, by decide +kernel⟩, by decide⟩, x_in 990 (by decide +kernel) rfl, x_in 991 (by decide +kernel) rfl⟩
theorem mt_X6_layPromise : MS yX6_layPromise cX6_layPromise 4 none 3 := ⟨⟨x_in 106 (by decide +kernel) rfl, x_in 1022 (by decide +kernel) rfl, ⟨by decide, by decide, by decide +kernel⟩, by decide⟩, x_in 1021 (by decide +kernel) rfl⟩
theorem mt_X6_promise : MV yX6_promise cX6_promise 3 (some .int) 2 := ⟨⟨x_in 106 (by decide +kernel) rfl, x_in 1000 (by decide +kernel) rfl, ⟨by decide, by decide, by decide +kernel⟩, by decide⟩, x_in 998 (by decide +kernel) rfl, x_in 999 (by decide +kernel) rfl⟩
theorem mt_X6_hearer : MV yX6_hearer cX6_hearer 3 (some .int) 2 := ⟨⟨x_in 106 (by decide +kernel) rfl, x_in 1026 (by decide +kernel) rfl, ⟨by decide, by decide, by decide +kernel⟩, by decide⟩, x_in 1024 (by decide +kernel) rfl, x_in 1025 (by decide +kernel) rfl⟩
theorem mt_X6_buyer : MV yX6_buyer cX6_buyer 2 (some .int) 1 := ⟨⟨x_in 106 (by decide +kernel) rfl, x_in 1030 (by decide +kernel) rfl, ⟨by decide, by decide, by decide +kernel⟩, by decide⟩, x_in 1028 (by decide +kernel) rfl, x_in 1029 (by decide +kernel) rfl⟩
theorem mt_X6_goodAs : MS yX6_goodAs cX6_goodAs 5 (some .int) 3 := ⟨⟨x_in 106 (by decide +kernel) rfl, x_in 1073 (by decide +kernel) rfl, ⟨by decide, by decide, by decide +kernel⟩, by decide⟩, x_in 1072 (by decide +kernel) rfl⟩
theorem mt_X6_joyAs : MS yX6_joyAs cX6_joyAs 7 (some .int) 3 := ⟨⟨x_in 106 (by decide +kernel) rfl, x_in 1100 (by decide +kernel) rfl, ⟨by decide, by decide, by decide +kernel⟩, by decide⟩, x_in 1099 (by decide +kernel) rfl⟩
theorem mt_X6_goodOf : MS yX6_goodOf cX6_goodOf 2 (some .int) 2 := ⟨⟨x_in 106 (by decide +kernel) rfl, x_in 1070 (by decide +kernel) rfl, ⟨by decide, by decide, by decide +kernel⟩, by decide⟩, x_in 1069 (by decide +kernel) rfl⟩
theorem mt_X6_priceOf : MS yX6_priceOf cX6_priceOf 2 (some .int) 2 := ⟨⟨x_in 106 (by decide +kernel) rfl, x_in 1067 (by decide +kernel) rfl, ⟨by decide, by decide, by decide +kernel⟩, by decide⟩, x_in 1066 (by decide +kernel) rfl⟩
theorem mt_X6_joyOf : MS yX6_joyOf cX6_joyOf 3 (some .int) 3 := ⟨⟨x_in 106 (by decide +kernel) rfl, x_in 1097 (by decide +kernel) rfl, ⟨by decide, by decide, by decide +kernel⟩, by decide⟩, x_in 1096 (by decide +kernel) rfl⟩
theorem mt_X6_isShown : MS yX6_isShown cX6_isShown 2 (some .boolean) 2 := ⟨⟨x_in 106 (by decide +kernel) rfl, x_in 1049 (by decide +kernel) rfl, ⟨by decide, by decide, by decide +kernel⟩, by decide⟩, x_in 1048 (by decide +kernel) rfl⟩
theorem mt_X6_isHeld : MS yX6_isHeld cX6_isHeld 2 (some .boolean) 2 := ⟨⟨x_in 106 (by decide +kernel) rfl, x_in 1091 (by decide +kernel) rfl, ⟨by decide, by decide, by decide +kernel⟩, by decide⟩, x_in 1090 (by decide +kernel) rfl⟩
theorem mt_X6_goDay : MS yX6_goDay cX6_goDay 2 none 1 := ⟨⟨x_in 106 (by decide +kernel) rfl, x_in 1046 (by decide +kernel) rfl, ⟨by decide, by decide, by decide +kernel⟩, by decide⟩, x_in 1045 (by decide +kernel) rfl⟩
theorem mt_X6_goDays : MS yX6_goDays cX6_goDays 3 none 2 := ⟨⟨x_in 106 (by decide +kernel) rfl, x_in 1043 (by decide +kernel) rfl, ⟨by decide, by decide, by decide +kernel⟩, by decide⟩, x_in 1042 (by decide +kernel) rfl⟩
theorem mt_X6_save : MV yX6_save cX6_save 2 none 0 := ⟨⟨x_in 106 (by decide +kernel) rfl, x_in 1040 (by decide +kernel) rfl, ⟨by decide, by decide, by decide +kernel⟩, by decide⟩, x_in 1039 (by decide +kernel) rfl, x_in 67 (by decide +kernel) rfl⟩
theorem mt_X6_days : MV yX6_days cX6_days 2 (some .int) 1 := ⟨⟨x_in 106 (by decide +kernel) rfl, x_in 1035 (by decide +kernel) rfl, ⟨by decide, by decide, by decide +kernel⟩, by decide⟩, x_in 1033 (by decide +kernel) rfl, x_in 1034 (by decide +kernel) rfl⟩
theorem mt_X6_mayBuy : MS yX6_mayBuy cX6_mayBuy 3 (some .boolean) 3 := ⟨⟨x_in 106 (by decide +kernel) rfl, x_in 1064 (by decide +kernel) rfl, ⟨by decide, by decide, by decide +kernel⟩, by decide⟩, x_in 1063 (by decide +kernel) rfl⟩
theorem mt_X6_goBuy : MS yX6_goBuy cX6_goBuy 3 none 3 := ⟨⟨x_in 106 (by decide +kernel) rfl, x_in 1080 (by decide +kernel) rfl, ⟨by decide, by decide, by decide +kernel⟩, by decide⟩, x_in 1079 (by decide +kernel) rfl⟩
theorem mt_X6_goKeep : MS yX6_goKeep cX6_goKeep 3 none 3 := ⟨⟨x_in 106 (by decide +kernel) rfl, x_in 1094 (by decide +kernel) rfl, ⟨by decide, by decide, by decide +kernel⟩, by decide⟩, x_in 1093 (by decide +kernel) rfl⟩
theorem mt_X6_buys : MV yX6_buys cX6_buys 3 (some .int) 2 := ⟨⟨x_in 106 (by decide +kernel) rfl, x_in 1053 (by decide +kernel) rfl, ⟨by decide, by decide, by decide +kernel⟩, by decide⟩, x_in 1051 (by decide +kernel) rfl, x_in 1052 (by decide +kernel) rfl⟩
theorem mt_X6_keeps : MV yX6_keeps cX6_keeps 3 (some .int) 2 := ⟨⟨x_in 106 (by decide +kernel) rfl, x_in 1084 (by decide +kernel) rfl, ⟨by decide, by decide, by decide +kernel⟩, by decide⟩, x_in 1082 (by decide +kernel) rfl, x_in 1083 (by decide +kernel) rfl⟩
theorem mt_X6_undo : MV yX6_undo cX6_undo 2 (some .int) 0 := ⟨⟨x_in 106 (by decide +kernel) rfl, x_in 1104 (by decide +kernel) rfl, ⟨by decide, by decide, by decide +kernel⟩, by decide⟩, x_in 1102 (by decide +kernel) rfl, x_in 1103 (by decide +kernel) rfl⟩
theorem mt_X6_toldOf : MV yX6_toldOf cX6_toldOf 3 (some .int) 2 := ⟨⟨x_in 106 (by decide +kernel) rfl, x_in 1112 (by decide +kernel) rfl, ⟨by decide, by decide, by decide +kernel⟩, by decide⟩, x_in 1111 (by decide +kernel) rfl, x_in 72 (by decide +kernel) rfl⟩
theorem mt_X6_of : MV yX6_of cX6_of 3 (some .int) 2 := ⟨⟨x_in 106 (by decide +kernel) rfl, x_in 1108 (by decide +kernel) rfl, ⟨by decide, by decide, by decide +kernel⟩, by decide⟩, x_in 1106 (by decide +kernel) rfl, x_in 1107 (by decide +kernel) rfl⟩
theorem mt_X6_allIn : MV yX6_allIn cX6_allIn 4 (some .int) 1 := ⟨⟨x_in 106 (by decide +kernel) rfl, x_in 1121 (by decide +kernel) rfl, ⟨by decide, by decide, by decide +kernel⟩, by decide⟩, x_in 1120 (by decide +kernel) rfl, x_in 73 (by decide +kernel) rfl⟩
theorem mt_X6_about : MV yX6_about cX6_about 3 (some .int) 2 := ⟨⟨x_in 106 (by decide +kernel) rfl, x_in 1116 (by decide +kernel) rfl, ⟨by decide, by decide, by decide +kernel⟩, by decide⟩, x_in 1114 (by decide +kernel) rfl, x_in 1115 (by decide +kernel) rfl⟩
theorem mt_X6_purse : MV yX6_purse cX6_purse 3 (some .int) 2 := ⟨⟨x_in 106 (by decide +kernel) rfl, x_in 1125 (by decide +kernel) rfl, ⟨by decide, by decide, by decide +kernel⟩, by decide⟩, x_in 1123 (by decide +kernel) rfl, x_in 1124 (by decide +kernel) rfl⟩
theorem mt_X6_goodBehind : MV yX6_goodBehind cX6_goodBehind 3 (some .int) 2 := ⟨⟨x_in 106 (by decide +kernel) rfl, x_in 1134 (by decide +kernel) rfl, ⟨by decide, by decide, by decide +kernel⟩, by decide⟩, x_in 1133 (by decide +kernel) rfl, x_in 74 (by decide +kernel) rfl⟩
theorem mt_X6_good : MV yX6_good cX6_good 3 (some .int) 2 := ⟨⟨x_in 106 (by decide +kernel) rfl, x_in 1129 (by decide +kernel) rfl, ⟨by decide, by decide, by decide +kernel⟩, by decide⟩, x_in 1127 (by decide +kernel) rfl, x_in 1128 (by decide +kernel) rfl⟩
theorem mt_X6_joy : MV yX6_joy cX6_joy 3 (some .int) 2 := ⟨⟨x_in 106 (by decide +kernel) rfl, x_in 1138 (by decide +kernel) rfl, ⟨by decide, by decide, by decide +kernel⟩, by decide⟩, x_in 1136 (by decide +kernel) rfl, x_in 1137 (by decide +kernel) rfl⟩
theorem mt_X6_when : MV yX6_when cX6_when 4 (some .int) 2 := ⟨⟨x_in 106 (by decide +kernel) rfl, x_in 1142 (by decide +kernel) rfl, ⟨by decide, by decide, by decide +kernel⟩, by decide⟩, x_in 1140 (by decide +kernel) rfl, x_in 1141 (by decide +kernel) rfl⟩
theorem mt_X6_waiting : MV yX6_waiting cX6_waiting 3 (some .int) 0 := ⟨⟨x_in 106 (by decide +kernel) rfl, x_in 1151 (by decide +kernel) rfl, ⟨by decide, by decide, by decide +kernel⟩, by decide⟩, x_in 1150 (by decide +kernel) rfl, x_in 75 (by decide +kernel) rfl⟩
theorem mt_X6_waits : MV yX6_waits cX6_waits 1 (some .int) 0 := ⟨⟨x_in 106 (by decide +kernel) rfl, x_in 1147 (by decide +kernel) rfl, ⟨by decide, by decide, by decide +kernel⟩, by decide⟩, x_in 1145 (by decide +kernel) rfl, x_in 1146 (by decide +kernel) rfl⟩
theorem mt_X6_means : MV yX6_means cX6_means 7 (some .boolean) 1 := ⟨⟨x_in 106 (by decide +kernel) rfl, x_in 1163 (by decide +kernel) rfl, ⟨by decide, by decide, by decide +kernel⟩, by decide⟩, x_in 1162 (by decide +kernel) rfl, x_in 77 (by decide +kernel) rfl⟩
theorem mt_X6_codes : MV yX6_codes cX6_codes 3 (some .int) 0 := ⟨⟨x_in 106 (by decide +kernel) rfl, x_in 1159 (by decide +kernel) rfl, ⟨by decide, by decide, by decide +kernel⟩, by decide⟩, x_in 1158 (by decide +kernel) rfl, x_in 76 (by decide +kernel) rfl⟩
theorem mt_X6_fit : MV yX6_fit cX6_fit 6 (some .int) 1 := ⟨⟨x_in 106 (by decide +kernel) rfl, x_in 1155 (by decide +kernel) rfl, ⟨by decide, by decide, by decide +kernel⟩, by decide⟩, x_in 1153 (by decide +kernel) rfl, x_in 1154 (by decide +kernel) rfl⟩
theorem mt_X6_buy : MV yX6_buy cX6_buy 10 (some .int) 3 := ⟨⟨x_in 106 (by decide +kernel) rfl, x_in 1170 (by decide +kernel) rfl, ⟨by decide, by decide, by decide +kernel⟩, by decide⟩, x_in 1168 (by decide +kernel) rfl, x_in 1169 (by decide +kernel) rfl⟩
theorem mt_X6_cheap : MV yX6_cheap cX6_cheap 7 (some .int) 0 := ⟨⟨x_in 106 (by decide +kernel) rfl, x_in 1175 (by decide +kernel) rfl, ⟨by decide, by decide, by decide +kernel⟩, by decide⟩, x_in 1173 (by decide +kernel) rfl, x_in 1174 (by decide +kernel) rfl⟩
theorem mt_X6_seen : MV yX6_seen cX6_seen 3 (some .int) 2 := ⟨⟨x_in 106 (by decide +kernel) rfl, x_in 1179 (by decide +kernel) rfl, ⟨by decide, by decide, by decide +kernel⟩, by decide⟩, x_in 1177 (by decide +kernel) rfl, x_in 1178 (by decide +kernel) rfl⟩
theorem mt_X6_seenOnes : MV yX6_seenOnes cX6_seenOnes 5 (some .int) 0 := ⟨⟨x_in 106 (by decide +kernel) rfl, x_in 1187 (by decide +kernel) rfl, ⟨by decide, by decide, by decide +kernel⟩, by decide⟩, x_in 1186 (by decide +kernel) rfl, x_in 78 (by decide +kernel) rfl⟩
theorem mt_X6_which : MV yX6_which cX6_which 1 (some .int) 0 := ⟨⟨x_in 106 (by decide +kernel) rfl, x_in 1183 (by decide +kernel) rfl, ⟨by decide, by decide, by decide +kernel⟩, by decide⟩, x_in 1181 (by decide +kernel) rfl, x_in 1182 (by decide +kernel) rfl⟩
theorem mt_X6_mostAlike : MV yX6_mostAlike cX6_mostAlike 6 (some .int) 1 := ⟨⟨x_in 106 (by decide +kernel) rfl, x_in 1195 (by decide +kernel) rfl, ⟨by decide, by decide, by decide +kernel⟩, by decide⟩, x_in 1194 (by decide +kernel) rfl, x_in 79 (by decide +kernel) rfl⟩
theorem mt_X6_tell : MV yX6_tell cX6_tell 6 (some .int) 0 := ⟨⟨x_in 106 (by decide +kernel) rfl, x_in 1191 (by decide +kernel) rfl, ⟨by decide, by decide, by decide +kernel⟩, by decide⟩, x_in 1189 (by decide +kernel) rfl, x_in 1190 (by decide +kernel) rfl⟩
theorem mt_X6_layFour : MV yX6_layFour cX6_layFour 6 none 5 := ⟨⟨x_in 106 (by decide +kernel) rfl, x_in 1203 (by decide +kernel) rfl, ⟨by decide, by decide, by decide +kernel⟩, by decide⟩, x_in 1202 (by decide +kernel) rfl, x_in 80 (by decide +kernel) rfl⟩
theorem mt_X6_note : MV yX6_note cX6_note 5 (some .int) 4 := ⟨⟨x_in 106 (by decide +kernel) rfl, x_in 1199 (by decide +kernel) rfl, ⟨by decide, by decide, by decide +kernel⟩, by decide⟩, x_in 1197 (by decide +kernel) rfl, x_in 1198 (by decide +kernel) rfl⟩
theorem mt_X6_mark : MV yX6_mark cX6_mark 5 (some .int) 4 := ⟨⟨x_in 106 (by decide +kernel) rfl, x_in 1207 (by decide +kernel) rfl, ⟨by decide, by decide, by decide +kernel⟩, by decide⟩, x_in 1205 (by decide +kernel) rfl, x_in 1206 (by decide +kernel) rfl⟩
theorem mt_X6_forget : MV yX6_forget cX6_forget 3 (some .int) 1 := ⟨⟨x_in 106 (by decide +kernel) rfl, x_in 1212 (by decide +kernel) rfl, ⟨by decide, by decide, by decide +kernel⟩, by decide⟩, x_in 1210 (by decide +kernel) rfl, x_in 1211 (by decide +kernel) rfl⟩
theorem mt_X6_kindsOfPromise : MV yX6_kindsOfPromise cX6_kindsOfPromise 7 (some .int) 1 := ⟨⟨x_in 106 (by decide +kernel) rfl, x_in 1220 (by decide +kernel) rfl, ⟨by decide, by decide, by decide +kernel⟩, by decide⟩, x_in 1219 (by decide +kernel) rfl, x_in 81 (by decide +kernel) rfl⟩
theorem mt_X6_kindsOfHearer : MV yX6_kindsOfHearer cX6_kindsOfHearer 7 (some .int) 1 := ⟨⟨x_in 106 (by decide +kernel) rfl, x_in 1232 (by decide +kernel) rfl, ⟨by decide, by decide, by decide +kernel⟩, by decide⟩, x_in 1231 (by decide +kernel) rfl, x_in 82 (by decide +kernel) rfl⟩
theorem mt_X6_is : MV yX6_is cX6_is 2 (some .int) 1 := ⟨⟨x_in 106 (by decide +kernel) rfl, x_in 1216 (by decide +kernel) rfl, ⟨by decide, by decide, by decide +kernel⟩, by decide⟩, x_in 1214 (by decide +kernel) rfl, x_in 1215 (by decide +kernel) rfl⟩
theorem mt_X6_look : MV yX6_look cX6_look 7 (some .int) 1 := ⟨⟨x_in 106 (by decide +kernel) rfl, x_in 1224 (by decide +kernel) rfl, ⟨by decide, by decide, by decide +kernel⟩, by decide⟩, x_in 1222 (by decide +kernel) rfl, x_in 1223 (by decide +kernel) rfl⟩
theorem mt_X6_kinds : MV yX6_kinds cX6_kinds 2 (some .int) 1 := ⟨⟨x_in 106 (by decide +kernel) rfl, x_in 1228 (by decide +kernel) rfl, ⟨by decide, by decide, by decide +kernel⟩, by decide⟩, x_in 1226 (by decide +kernel) rfl, x_in 1227 (by decide +kernel) rfl⟩
theorem mt_X6_ask : MV yX6_ask cX6_ask 7 (some .int) 1 := ⟨⟨x_in 106 (by decide +kernel) rfl, x_in 1236 (by decide +kernel) rfl, ⟨by decide, by decide, by decide +kernel⟩, by decide⟩, x_in 1234 (by decide +kernel) rfl, x_in 1235 (by decide +kernel) rfl⟩
theorem mt_X6_getsBy : MS yX6_getsBy cX6_getsBy 5 (some .int) 4 := ⟨⟨x_in 106 (by decide +kernel) rfl, x_in 1246 (by decide +kernel) rfl, ⟨by decide, by decide, by decide +kernel⟩, by decide⟩, x_in 1245 (by decide +kernel) rfl⟩
theorem mt_X6_rests : MS yX6_rests cX6_rests 5 (some .boolean) 3 := ⟨⟨x_in 106 (by decide +kernel) rfl, x_in 1243 (by decide +kernel) rfl, ⟨by decide, by decide, by decide +kernel⟩, by decide⟩, x_in 1242 (by decide +kernel) rfl⟩
theorem mt_X6_bids : MV yX6_bids cX6_bids 9 (some .int) 5 := ⟨⟨x_in 106 (by decide +kernel) rfl, x_in 1240 (by decide +kernel) rfl, ⟨by decide, by decide, by decide +kernel⟩, by decide⟩, x_in 1238 (by decide +kernel) rfl, x_in 1239 (by decide +kernel) rfl⟩
theorem mt_X6_fraction : MV yX6_fraction cX6_fraction 11 none 2 := ⟨⟨x_in 106 (by decide +kernel) rfl, x_in 1255 (by decide +kernel) rfl, ⟨by decide, by decide, by decide +kernel⟩, by decide⟩, x_in 1254 (by decide +kernel) rfl, x_in 83 (by decide +kernel) rfl⟩
theorem mt_X6_redeemed : MV yX6_redeemed cX6_redeemed 5 (some .int) 1 := ⟨⟨x_in 106 (by decide +kernel) rfl, x_in 1250 (by decide +kernel) rfl, ⟨by decide, by decide, by decide +kernel⟩, by decide⟩, x_in 1248 (by decide +kernel) rfl, x_in 1249 (by decide +kernel) rfl⟩
theorem mt_X6_years : MV yX6_years cX6_years 8 (some .int) 2 := ⟨⟨x_in 106 (by decide +kernel) rfl, x_in 1259 (by decide +kernel) rfl, ⟨by decide, by decide, by decide +kernel⟩, by decide⟩, x_in 1257 (by decide +kernel) rfl, x_in 1258 (by decide +kernel) rfl⟩
theorem mt_X6_type : MV yX6_type cX6_type 2 (some .int) 1 := ⟨⟨x_in 106 (by decide +kernel) rfl, x_in 1271 (by decide +kernel) rfl, ⟨by decide, by decide, by decide +kernel⟩, by decide⟩, x_in 1269 (by decide +kernel) rfl, x_in 1270 (by decide +kernel) rfl⟩
theorem mt_X6_clear : MV yX6_clear cX6_clear 2 (some .int) 0 := ⟨⟨x_in 106 (by decide +kernel) rfl, x_in 1276 (by decide +kernel) rfl, ⟨by decide, by decide, by decide +kernel⟩, by decide⟩, x_in 1274 (by decide +kernel) rfl, x_in 1275 (by decide +kernel) rfl⟩
theorem mt_X6_isSmall : MS yX6_isSmall cX6_isSmall 1 (some .boolean) 1 := ⟨⟨x_in 106 (by decide +kernel) rfl, x_in 1287 (by decide +kernel) rfl, ⟨by decide, by decide, by decide +kernel⟩, by decide⟩, x_in 1286 (by decide +kernel) rfl⟩
theorem mt_X6_isFigure : MS yX6_isFigure cX6_isFigure 1 (some .boolean) 1 := ⟨⟨x_in 106 (by decide +kernel) rfl, x_in 1292 (by decide +kernel) rfl, ⟨by decide, by decide, by decide +kernel⟩, by decide⟩, x_in 1291 (by decide +kernel) rfl⟩
theorem mt_X6_lookAt : MV yX6_lookAt cX6_lookAt 5 none 1 := ⟨⟨x_in 106 (by decide +kernel) rfl, x_in 1284 (by decide +kernel) rfl, ⟨by decide, by decide, by decide +kernel⟩, by decide⟩, x_in 1283 (by decide +kernel) rfl, x_in 84 (by decide +kernel) rfl⟩
theorem mt_X6_goBehind : MV yX6_goBehind cX6_goBehind 1 none 0 := ⟨⟨x_in 106 (by decide +kernel) rfl, x_in 1302 (by decide +kernel) rfl, ⟨by decide, by decide, by decide +kernel⟩, by decide⟩, x_in 1301 (by decide +kernel) rfl, x_in 86 (by decide +kernel) rfl⟩
theorem mt_X6_spells : MV yX6_spells cX6_spells 10 (some .boolean) 7 := ⟨⟨x_in 106 (by decide +kernel) rfl, x_in 1298 (by decide +kernel) rfl, ⟨by decide, by decide, by decide +kernel⟩, by decide⟩, x_in 1297 (by decide +kernel) rfl, x_in 85 (by decide +kernel) rfl⟩
theorem mt_X6_takes : MV yX6_takes cX6_takes 4 (some .boolean) 3 := ⟨⟨x_in 106 (by decide +kernel) rfl, x_in 1318 (by decide +kernel) rfl, ⟨by decide, by decide, by decide +kernel⟩, by decide⟩, x_in 1317 (by decide +kernel) rfl, x_in 90 (by decide +kernel) rfl⟩
theorem mt_X6_takesPromise : MV yX6_takesPromise cX6_takesPromise 1 (some .boolean) 0 := ⟨⟨x_in 106 (by decide +kernel) rfl, x_in 1314 (by decide +kernel) rfl, ⟨by decide, by decide, by decide +kernel⟩, by decide⟩, x_in 1313 (by decide +kernel) rfl, x_in 89 (by decide +kernel) rfl⟩
theorem mt_X6_takesHearer : MV yX6_takesHearer cX6_takesHearer 1 (some .boolean) 0 := ⟨⟨x_in 106 (by decide +kernel) rfl, x_in 1322 (by decide +kernel) rfl, ⟨by decide, by decide, by decide +kernel⟩, by decide⟩, x_in 1321 (by decide +kernel) rfl, x_in 91 (by decide +kernel) rfl⟩
theorem mt_X6_takesBuyer : MV yX6_takesBuyer cX6_takesBuyer 1 (some .boolean) 0 := ⟨⟨x_in 106 (by decide +kernel) rfl, x_in 1326 (by decide +kernel) rfl, ⟨by decide, by decide, by decide +kernel⟩, by decide⟩, x_in 1325 (by decide +kernel) rfl, x_in 92 (by decide +kernel) rfl⟩
theorem mt_X6_takesBuy : MV yX6_takesBuy cX6_takesBuy 1 (some .boolean) 0 := ⟨⟨x_in 106 (by decide +kernel) rfl, x_in 1330 (by decide +kernel) rfl, ⟨by decide, by decide, by decide +kernel⟩, by decide⟩, x_in 1329 (by decide +kernel) rfl, x_in 93 (by decide +kernel) rfl⟩
theorem mt_X6_takesKeep : MV yX6_takesKeep cX6_takesKeep 1 (some .boolean) 0 := ⟨⟨x_in 106 (by decide +kernel) rfl, x_in 1334 (by decide +kernel) rfl, ⟨by decide, by decide, by decide +kernel⟩, by decide⟩, x_in 1333 (by decide +kernel) rfl, x_in 94 (by decide +kernel) rfl⟩
theorem mt_X6_takesDays : MV yX6_takesDays cX6_takesDays 1 (some .boolean) 0 := ⟨⟨x_in 106 (by decide +kernel) rfl, x_in 1338 (by decide +kernel) rfl, ⟨by decide, by decide, by decide +kernel⟩, by decide⟩, x_in 1337 (by decide +kernel) rfl, x_in 95 (by decide +kernel) rfl⟩
theorem mt_X6_spellsPromise : MV yX6_spellsPromise cX6_spellsPromise 2 (some .boolean) 0 := ⟨⟨x_in 106 (by decide +kernel) rfl, x_in 1310 (by decide +kernel) rfl, ⟨by decide, by decide, by decide +kernel⟩, by decide⟩, x_in 1309 (by decide +kernel) rfl, x_in 88 (by decide +kernel) rfl⟩
theorem mt_X6_takesItem : MV yX6_takesItem cX6_takesItem 1 (some .boolean) 0 := ⟨⟨x_in 106 (by decide +kernel) rfl, x_in 1306 (by decide +kernel) rfl, ⟨by decide, by decide, by decide +kernel⟩, by decide⟩, x_in 1305 (by decide +kernel) rfl, x_in 87 (by decide +kernel) rfl⟩
theorem mt_X6_read : MV yX6_read cX6_read 3 (some .int) 0 := ⟨⟨x_in 106 (by decide +kernel) rfl, x_in 1280 (by decide +kernel) rfl, ⟨by decide, by decide, by decide +kernel⟩, by decide⟩, x_in 1278 (by decide +kernel) rfl, x_in 1279 (by decide +kernel) rfl⟩
theorem mt_X6_part : MV yX6_part cX6_part 2 (some .long) 1 := ⟨⟨x_in 106 (by decide +kernel) rfl, x_in 1342 (by decide +kernel) rfl, ⟨by decide, by decide, by decide +kernel⟩, by decide⟩, x_in 1340 (by decide +kernel) rfl, x_in 1341 (by decide +kernel) rfl⟩
theorem mt_X6_image : MV yX6_image cX6_image 3 (some .int) 1 := ⟨⟨x_in 106 (by decide +kernel) rfl, x_in 1346 (by decide +kernel) rfl, ⟨by decide, by decide, by decide +kernel⟩, by decide⟩, x_in 1344 (by decide +kernel) rfl, x_in 1345 (by decide +kernel) rfl⟩
theorem mt_X6_from : MV yX6_from cX6_from 3 (some .int) 1 := ⟨⟨x_in 106 (by decide +kernel) rfl, x_in 1350 (by decide +kernel) rfl, ⟨by decide, by decide, by decide +kernel⟩, by decide⟩, x_in 1348 (by decide +kernel) rfl, x_in 1349 (by decide +kernel) rfl⟩
theorem mt_X6_status : MV yX6_status cX6_status 2 (some .int) 1 := ⟨⟨x_in 106 (by decide +kernel) rfl, x_in 1354 (by decide +kernel) rfl, ⟨by decide, by decide, by decide +kernel⟩, by decide⟩, x_in 1352 (by decide +kernel) rfl, x_in 1353 (by decide +kernel) rfl⟩
theorem mt_X6_counted : MV yX6_counted cX6_counted 5 (some .int) 1 := ⟨⟨x_in 106 (by decide +kernel) rfl, x_in 1363 (by decide +kernel) rfl, ⟨by decide, by decide, by decide +kernel⟩, by decide⟩, x_in 1362 (by decide +kernel) rfl, x_in 96 (by decide +kernel) rfl⟩
theorem mt_X6_count : MV yX6_count cX6_count 2 (some .int) 1 := ⟨⟨x_in 106 (by decide +kernel) rfl, x_in 1358 (by decide +kernel) rfl, ⟨by decide, by decide, by decide +kernel⟩, by decide⟩, x_in 1356 (by decide +kernel) rfl, x_in 1357 (by decide +kernel) rfl⟩
theorem mt_X6_sums : MV yX6_sums cX6_sums 8 (some .long) 3 := ⟨⟨x_in 106 (by decide +kernel) rfl, x_in 1373 (by decide +kernel) rfl, ⟨by decide, by decide, by decide +kernel⟩, by decide⟩, x_in 1372 (by decide +kernel) rfl, x_in 97 (by decide +kernel) rfl⟩
theorem mt_X6_digest : MV yX6_digest cX6_digest 5 (some .long) 0 := ⟨⟨x_in 106 (by decide +kernel) rfl, x_in 1367 (by decide +kernel) rfl, ⟨by decide, by decide, by decide +kernel⟩, by decide⟩, x_in 1365 (by decide +kernel) rfl, x_in 1366 (by decide +kernel) rfl⟩
theorem mt_J6_bitCount_0f7a4 : MS yJ6_bitCount_0f7a4 cJ6_bitCount_0f7a4 1 (some .int) 1 := ⟨⟨x_in 112 (by decide +kernel) rfl, x_in 898 (by decide +kernel) rfl, ⟨by decide, by decide, by decide +kernel⟩, by decide⟩, x_in 897 (by decide +kernel) rfl⟩
theorem mt_J9_abs_0f7a4 : MS yJ9_abs_0f7a4 cJ9_abs_0f7a4 1 (some .int) 1 := ⟨⟨x_in 104 (by decide +kernel) rfl, x_in 586 (by decide +kernel) rfl, ⟨by decide, by decide, by decide +kernel⟩, by decide⟩, x_in 585 (by decide +kernel) rfl⟩
theorem mt_J9_max_7cf53 : MS yJ9_max_7cf53 cJ9_max_7cf53 2 (some .int) 2 := ⟨⟨x_in 104 (by decide +kernel) rfl, x_in 214 (by decide +kernel) rfl, ⟨by decide, by decide, by decide +kernel⟩, by decide⟩, x_in 213 (by decide +kernel) rfl⟩
theorem mt_J9_min_7cf53 : MS yJ9_min_7cf53 cJ9_min_7cf53 2 (some .int) 2 := ⟨⟨x_in 104 (by decide +kernel) rfl, x_in 559 (by decide +kernel) rfl, ⟨by decide, by decide, by decide +kernel⟩, by decide⟩, x_in 558 (by decide +kernel) rfl⟩
theorem mt_J0_length_8abf5 : MV yJ0_length_8abf5 cJ0_length_8abf5 1 (some .int) 0 := ⟨⟨x_in 107 (by decide +kernel) rfl, x_in 452 (by decide +kernel) rfl, ⟨by decide, by decide, by decide +kernel⟩, by decide⟩, x_in 450 (by decide +kernel) rfl, x_in 451 (by decide +kernel) rfl⟩
theorem mt_J0_charAt_5068e : MV yJ0_charAt_5068e cJ0_charAt_5068e 2 (some .char) 1 := ⟨⟨x_in 107 (by decide +kernel) rfl, x_in 462 (by decide +kernel) rfl, ⟨by decide, by decide, by decide +kernel⟩, by decide⟩, x_in 460 (by decide +kernel) rfl, x_in 461 (by decide +kernel) rfl⟩
theorem mt_J0_coder_7d493 : MV yJ0_coder_7d493 cJ0_coder_7d493 1 (some .byte) 0 := ⟨⟨x_in 107 (by decide +kernel) rfl, x_in 456 (by decide +kernel) rfl, ⟨by decide, by decide, by decide +kernel⟩, by decide⟩, x_in 454 (by decide +kernel) rfl, x_in 455 (by decide +kernel) rfl⟩
theorem mt_J0_isLatin1_aae02 : MV yJ0_isLatin1_aae02 cJ0_isLatin1_aae02 1 (some .boolean) 0 := ⟨⟨x_in 107 (by decide +kernel) rfl, x_in 466 (by decide +kernel) rfl, ⟨by decide, by decide, by decide +kernel⟩, by decide⟩, x_in 464 (by decide +kernel) rfl, x_in 465 (by decide +kernel) rfl⟩
theorem mt_J0_checkIndex_df160 : MS yJ0_checkIndex_df160 cJ0_checkIndex_df160 2 none 2 := ⟨⟨x_in 107 (by decide +kernel) rfl, x_in 472 (by decide +kernel) rfl, ⟨by decide, by decide, by decide +kernel⟩, by decide⟩, x_in 471 (by decide +kernel) rfl⟩
theorem mt_J1_charAt_3b067 : MS yJ1_charAt_3b067 cJ1_charAt_3b067 2 (some .char) 2 := ⟨⟨x_in 108 (by decide +kernel) rfl, x_in 469 (by decide +kernel) rfl, ⟨by decide, by decide, by decide +kernel⟩, by decide⟩, x_in 468 (by decide +kernel) rfl⟩
theorem mt_J2_getChar_3b067 : MS yJ2_getChar_3b067 cJ2_getChar_3b067 2 (some .char) 2 := ⟨⟨x_in 110 (by decide +kernel) rfl, x_in 490 (by decide +kernel) rfl, ⟨by decide, by decide, by decide +kernel⟩, by decide⟩, x_in 489 (by decide +kernel) rfl⟩
theorem mt_J2_length_9d52b : MS yJ2_length_9d52b cJ2_length_9d52b 1 (some .int) 1 := ⟨⟨x_in 110 (by decide +kernel) rfl, x_in 486 (by decide +kernel) rfl, ⟨by decide, by decide, by decide +kernel⟩, by decide⟩, x_in 485 (by decide +kernel) rfl⟩
theorem mt_J2_charAt_3b067 : MS yJ2_charAt_3b067 cJ2_charAt_3b067 2 (some .char) 2 := ⟨⟨x_in 110 (by decide +kernel) rfl, x_in 480 (by decide +kernel) rfl, ⟨by decide, by decide, by decide +kernel⟩, by decide⟩, x_in 479 (by decide +kernel) rfl⟩
theorem mt_J2_checkIndex_2214a : MS yJ2_checkIndex_2214a cJ2_checkIndex_2214a 2 none 2 := ⟨⟨x_in 110 (by decide +kernel) rfl, x_in 483 (by decide +kernel) rfl, ⟨by decide, by decide, by decide +kernel⟩, by decide⟩, x_in 482 (by decide +kernel) rfl⟩
theorem mt_J3_checkIndex_8e157 : MS yJ3_checkIndex_8e157 cJ3_checkIndex_8e157 3 (some .int) 3 := ⟨⟨x_in 109 (by decide +kernel) rfl, x_in 477 (by decide +kernel) rfl, ⟨by decide, by decide, by decide +kernel⟩, by decide⟩, x_in 476 (by decide +kernel) rfl⟩
end
